theorem dX2_mix_253 : decode cX2_mix 253 = .ok (.iastore, 1) := by decide +kernel
theorem dX2_mix_254 : decode cX2_mix 254 = .ok (.aload_n 0, 1) := by decide +kernel
theorem dX2_mix_255 : decode cX2_mix 255 = .ok (.getfield 17, 3) := by decide +kernel
theorem dX2_mix_258 : decode cX2_mix 258 = .ok (.bipush 7, 2) := by decide +kernel
theorem dX2_mix_260 : decode cX2_mix 260 = .ok (.dup2, 1) := by decide +kernel
theorem dX2_mix_261 : decode cX2_mix 261 = .ok (.iaload, 1) := by decide +kernel
theorem dX2_mix_262 : decode cX2_mix 262 = .ok (.iload 8, 2) := by decide +kernel
theorem dX2_mix_264 : decode cX2_mix 264 = .ok (.iadd, 1) := by decide +kernel
theorem dX2_mix_265 : decode cX2_mix 265 = .ok (.iastore, 1) := by decide +kernel
theorem dX2_mix_266 : decode cX2_mix 266 = .ok (.return_, 1) := by decide +kernel
set_option maxRecDepth 20000 in
theorem ggX2_spread_X2_turned : GoodIn wsX2_spread wsX2_turned := goodIn_r _ [4] (by decide +kernel) (by decide +kernel)
set_option maxRecDepth 20000 in
theorem gX2_spread_X2_turned : GoodIn wsX2_spread (va_wsS RX2 50 yX2_turned wsX2_turned) := goodIn_app (goodIn_of _ (by decide +kernel)) ggX2_spread_X2_turned
theorem dX2_spread_0 : decode cX2_spread 0 = .ok (.iload_n 0, 1) := by decide +kernel
theorem dX2_spread_1 : decode cX2_spread 1 = .ok (.iload_n 1, 1) := by decide +kernel
theorem dX2_spread_2 : decode cX2_spread 2 = .ok (.invokestatic 50, 3) := by decide +kernel
theorem dX2_spread_5 : decode cX2_spread 5 = .ok (.iload_n 0, 1) := by decide +kernel
theorem dX2_spread_6 : decode cX2_spread 6 = .ok (.iload_n 2, 1) := by decide +kernel
theorem dX2_spread_7 : decode cX2_spread 7 = .ok (.invokestatic 50, 3) := by decide +kernel
theorem dX2_spread_10 : decode cX2_spread 10 = .ok (.ixor, 1) := by decide +kernel
theorem dX2_spread_11 : decode cX2_spread 11 = .ok (.iload_n 0, 1) := by decide +kernel
theorem dX2_spread_12 : decode cX2_spread 12 = .ok (.iload_n 3, 1) := by decide +kernel
theorem dX2_spread_13 : decode cX2_spread 13 = .ok (.iushr, 1) := by decide +kernel
theorem dX2_spread_14 : decode cX2_spread 14 = .ok (.ixor, 1) := by decide +kernel
theorem dX2_spread_15 : decode cX2_spread 15 = .ok (.ireturn, 1) := by decide +kernel
set_option maxRecDepth 20000 in
theorem ggX2_turns_X2_turned : GoodIn wsX2_turns wsX2_turned := goodIn_r _ [4] (by decide +kernel) (by decide +kernel)
set_option maxRecDepth 20000 in
theorem gX2_turns_X2_turned : GoodIn wsX2_turns (va_wsS RX2 50 yX2_turned wsX2_turned) := goodIn_app (goodIn_of _ (by decide +kernel)) ggX2_turns_X2_turned
theorem dX2_turns_0 : decode cX2_turns 0 = .ok (.iload_n 0, 1) := by decide +kernel
theorem dX2_turns_1 : decode cX2_turns 1 = .ok (.iload_n 1, 1) := by decide +kernel
theorem dX2_turns_2 : decode cX2_turns 2 = .ok (.invokestatic 50, 3) := by decide +kernel
theorem dX2_turns_5 : decode cX2_turns 5 = .ok (.iload_n 0, 1) := by decide +kernel
theorem dX2_turns_6 : decode cX2_turns 6 = .ok (.iload_n 2, 1) := by decide +kernel
theorem dX2_turns_7 : decode cX2_turns 7 = .ok (.invokestatic 50, 3) := by decide +kernel
theorem dX2_turns_10 : decode cX2_turns 10 = .ok (.ixor, 1) := by decide +kernel
theorem dX2_turns_11 : decode cX2_turns 11 = .ok (.iload_n 0, 1) := by decide +kernel
theorem dX2_turns_12 : decode cX2_turns 12 = .ok (.iload_n 3, 1) := by decide +kernel
theorem dX2_turns_13 : decode cX2_turns 13 = .ok (.invokestatic 50, 3) := by decide +kernel
theorem dX2_turns_16 : decode cX2_turns 16 = .ok (.ixor, 1) := by decide +kernel
theorem dX2_turns_17 : decode cX2_turns 17 = .ok (.ireturn, 1) := by decide +kernel
theorem dX2_turned_0 : decode cX2_turned 0 = .ok (.iload_n 0, 1) := by decide +kernel
theorem dX2_turned_1 : decode cX2_turned 1 = .ok (.iload_n 1, 1) := by decide +kernel
theorem dX2_turned_2 : decode cX2_turned 2 = .ok (.iushr, 1) := by decide +kernel
theorem dX2_turned_3 : decode cX2_turned 3 = .ok (.iload_n 0, 1) := by decide +kernel
theorem dX2_turned_4 : decode cX2_turned 4 = .ok (.bipush 32, 2) := by decide +kernel
theorem dX2_turned_6 : decode cX2_turned 6 = .ok (.iload_n 1, 1) := by decide +kernel
theorem dX2_turned_7 : decode cX2_turned 7 = .ok (.isub, 1) := by decide +kernel
theorem dX2_turned_8 : decode cX2_turned 8 = .ok (.ishl, 1) := by decide +kernel
theorem dX2_turned_9 : decode cX2_turned 9 = .ok (.ior, 1) := by decide +kernel
theorem dX2_turned_10 : decode cX2_turned 10 = .ok (.ireturn, 1) := by decide +kernel
theorem dX3_init_0 : decode cX3_init 0 = .ok (.aload_n 0, 1) := by decide +kernel
theorem dX3_init_1 : decode cX3_init 1 = .ok (.invokespecial 3, 3) := by decide +kernel
theorem dX3_init_4 : decode cX3_init 4 = .ok (.aload_n 0, 1) := by decide +kernel
theorem dX3_init_5 : decode cX3_init 5 = .ok (.sipush 256, 3) := by decide +kernel
theorem dX3_init_8 : decode cX3_init 8 = .ok (.newarray .byte, 2) := by decide +kernel
theorem dX3_init_10 : decode cX3_init 10 = .ok (.putfield 9, 3) := by decide +kernel
theorem dX3_init_13 : decode cX3_init 13 = .ok (.return_, 1) := by decide +kernel
theorem dX3_begin_0 : decode cX3_begin 0 = .ok (.iconst 0, 1) := by decide +kernel
theorem dX3_begin_1 : decode cX3_begin 1 = .ok (.istore 5, 2) := by decide +kernel
theorem dX3_begin_3 : decode cX3_begin 3 = .ok (.iload 5, 2) := by decide +kernel
theorem dX3_begin_5 : decode cX3_begin 5 = .ok (.iload 4, 2) := by decide +kernel
theorem dX3_begin_7 : decode cX3_begin 7 = .ok (.if_icmp .ge 20, 3) := by decide +kernel
theorem dX3_begin_10 : decode cX3_begin 10 = .ok (.aload_n 0, 1) := by decide +kernel
theorem dX3_begin_11 : decode cX3_begin 11 = .ok (.getfield 9, 3) := by decide +kernel
theorem dX3_begin_14 : decode cX3_begin 14 = .ok (.iload 5, 2) := by decide +kernel
theorem dX3_begin_16 : decode cX3_begin 16 = .ok (.aload_n 3, 1) := by decide +kernel
theorem dX3_begin_17 : decode cX3_begin 17 = .ok (.iload 5, 2) := by decide +kernel
theorem dX3_begin_19 : decode cX3_begin 19 = .ok (.baload, 1) := by decide +kernel
theorem dX3_begin_20 : decode cX3_begin 20 = .ok (.bastore, 1) := by decide +kernel
theorem dX3_begin_21 : decode cX3_begin 21 = .ok (.iinc 5 1, 3) := by decide +kernel
theorem dX3_begin_24 : decode cX3_begin 24 = .ok (.goto (-21), 3) := by decide +kernel
theorem dX3_begin_27 : decode cX3_begin 27 = .ok (.aload_n 0, 1) := by decide +kernel
theorem dX3_begin_28 : decode cX3_begin 28 = .ok (.iload 4, 2) := by decide +kernel
theorem dX3_begin_30 : decode cX3_begin 30 = .ok (.putfield 15, 3) := by decide +kernel
theorem dX3_begin_33 : decode cX3_begin 33 = .ok (.aload_n 0, 1) := by decide +kernel
theorem dX3_begin_34 : decode cX3_begin 34 = .ok (.iload_n 1, 1) := by decide +kernel
theorem dX3_begin_35 : decode cX3_begin 35 = .ok (.putfield 19, 3) := by decide +kernel
theorem dX3_begin_38 : decode cX3_begin 38 = .ok (.aload_n 0, 1) := by decide +kernel
theorem dX3_begin_39 : decode cX3_begin 39 = .ok (.iload_n 2, 1) := by decide +kernel
theorem dX3_begin_40 : decode cX3_begin 40 = .ok (.putfield 22, 3) := by decide +kernel
theorem dX3_begin_43 : decode cX3_begin 43 = .ok (.aload_n 0, 1) := by decide +kernel
theorem dX3_begin_44 : decode cX3_begin 44 = .ok (.iconst 1, 1) := by decide +kernel
theorem dX3_begin_45 : decode cX3_begin 45 = .ok (.putfield 25, 3) := by decide +kernel
theorem dX3_begin_48 : decode cX3_begin 48 = .ok (.aload_n 0, 1) := by decide +kernel
theorem dX3_begin_49 : decode cX3_begin 49 = .ok (.iconst 0, 1) := by decide +kernel
theorem dX3_begin_50 : decode cX3_begin 50 = .ok (.putfield 28, 3) := by decide +kernel
theorem dX3_begin_53 : decode cX3_begin 53 = .ok (.aload_n 0, 1) := by decide +kernel
theorem dX3_begin_54 : decode cX3_begin 54 = .ok (.iload_n 1, 1) := by decide +kernel
theorem dX3_begin_55 : decode cX3_begin 55 = .ok (.putfield 31, 3) := by decide +kernel
theorem dX3_begin_58 : decode cX3_begin 58 = .ok (.aload_n 0, 1) := by decide +kernel
theorem dX3_begin_59 : decode cX3_begin 59 = .ok (.iconst 0, 1) := by decide +kernel
theorem dX3_begin_60 : decode cX3_begin 60 = .ok (.putfield 34, 3) := by decide +kernel
theorem dX3_begin_63 : decode cX3_begin 63 = .ok (.return_, 1) := by decide +kernel
theorem dX3_isOf_0 : decode cX3_isOf 0 = .ok (.aload_n 0, 1) := by decide +kernel
theorem dX3_isOf_1 : decode cX3_isOf 1 = .ok (.getfield 25, 3) := by decide +kernel
theorem dX3_isOf_4 : decode cX3_isOf 4 = .ok (.ifCond .eq 15, 3) := by decide +kernel
theorem dX3_isOf_7 : decode cX3_isOf 7 = .ok (.aload_n 0, 1) := by decide +kernel
theorem dX3_isOf_8 : decode cX3_isOf 8 = .ok (.getfield 31, 3) := by decide +kernel
theorem dX3_isOf_11 : decode cX3_isOf 11 = .ok (.iload_n 1, 1) := by decide +kernel
theorem dX3_isOf_12 : decode cX3_isOf 12 = .ok (.if_icmp .ne 7, 3) := by decide +kernel
theorem dX3_isOf_15 : decode cX3_isOf 15 = .ok (.iconst 1, 1) := by decide +kernel
theorem dX3_isOf_16 : decode cX3_isOf 16 = .ok (.goto 4, 3) := by decide +kernel
theorem dX3_isOf_19 : decode cX3_isOf 19 = .ok (.iconst 0, 1) := by decide +kernel
theorem dX3_isOf_20 : decode cX3_isOf 20 = .ok (.ireturn, 1) := by decide +kernel
theorem dX3_loseBlock_0 : decode cX3_loseBlock 0 = .ok (.aload_n 0, 1) := by decide +kernel
theorem dX3_loseBlock_1 : decode cX3_loseBlock 1 = .ok (.getfield 25, 3) := by decide +kernel
theorem dX3_loseBlock_4 : decode cX3_loseBlock 4 = .ok (.iconst 1, 1) := by decide +kernel
theorem dX3_loseBlock_5 : decode cX3_loseBlock 5 = .ok (.if_icmp .ne 20, 3) := by decide +kernel
theorem dX3_loseBlock_8 : decode cX3_loseBlock 8 = .ok (.aload_n 0, 1) := by decide +kernel
theorem dX3_loseBlock_9 : decode cX3_loseBlock 9 = .ok (.getfield 28, 3) := by decide +kernel
theorem dX3_loseBlock_12 : decode cX3_loseBlock 12 = .ok (.ifCond .le 13, 3) := by decide +kernel
theorem dX3_loseBlock_15 : decode cX3_loseBlock 15 = .ok (.aload_n 0, 1) := by decide +kernel
theorem dX3_loseBlock_16 : decode cX3_loseBlock 16 = .ok (.dup, 1) := by decide +kernel
theorem dX3_loseBlock_17 : decode cX3_loseBlock 17 = .ok (.getfield 28, 3) := by decide +kernel
theorem dX3_loseBlock_20 : decode cX3_loseBlock 20 = .ok (.iconst 1, 1) := by decide +kernel
theorem dX3_loseBlock_21 : decode cX3_loseBlock 21 = .ok (.isub, 1) := by decide +kernel
theorem dX3_loseBlock_22 : decode cX3_loseBlock 22 = .ok (.putfield 28, 3) := by decide +kernel
theorem dX3_loseBlock_25 : decode cX3_loseBlock 25 = .ok (.return_, 1) := by decide +kernel
set_option maxRecDepth 20000 in
theorem ggX4_init_X2_init : GoodIn wsX4_init wsX2_init := goodIn_r _ [16, 17, 2, 3, 6, 18, 19, 20, 21, 30, 31, 32] (by decide +kernel) (by decide +kernel)
set_option maxRecDepth 20000 in
theorem gX4_init_X2_init : GoodIn wsX4_init (wsX2_init) := ggX4_init_X2_init
theorem dX4_init_0 : decode cX4_init 0 = .ok (.aload_n 0, 1) := by decide +kernel
theorem dX4_init_1 : decode cX4_init 1 = .ok (.invokespecial 1, 3) := by decide +kernel
theorem dX4_init_4 : decode cX4_init 4 = .ok (.aload_n 0, 1) := by decide +kernel
theorem dX4_init_5 : decode cX4_init 5 = .ok (.bipush 8, 2) := by decide +kernel
theorem dX4_init_7 : decode cX4_init 7 = .ok (.anewarray 9, 3) := by decide +kernel
theorem dX4_init_10 : decode cX4_init 10 = .ok (.putfield 11, 3) := by decide +kernel
theorem dX4_init_13 : decode cX4_init 13 = .ok (.aload_n 0, 1) := by decide +kernel
theorem dX4_init_14 : decode cX4_init 14 = .ok (.sipush 256, 3) := by decide +kernel
theorem dX4_init_17 : decode cX4_init 17 = .ok (.newarray .byte, 2) := by decide +kernel
theorem dX4_init_19 : decode cX4_init 19 = .ok (.putfield 15, 3) := by decide +kernel
theorem dX4_init_22 : decode cX4_init 22 = .ok (.aload_n 0, 1) := by decide +kernel
theorem dX4_init_23 : decode cX4_init 23 = .ok (.iconst 1, 1) := by decide +kernel
theorem dX4_init_24 : decode cX4_init 24 = .ok (.putfield 19, 3) := by decide +kernel
theorem dX4_init_27 : decode cX4_init 27 = .ok (.aload_n 0, 1) := by decide +kernel
theorem dX4_init_28 : decode cX4_init 28 = .ok (.iconst 1, 1) := by decide +kernel
theorem dX4_init_29 : decode cX4_init 29 = .ok (.putfield 23, 3) := by decide +kernel
theorem dX4_init_32 : decode cX4_init 32 = .ok (.aload_n 0, 1) := by decide +kernel
theorem dX4_init_33 : decode cX4_init 33 = .ok (.new 26, 3) := by decide +kernel
theorem dX4_init_36 : decode cX4_init 36 = .ok (.dup, 1) := by decide +kernel
theorem dX4_init_37 : decode cX4_init 37 = .ok (.invokespecial 28, 3) := by decide +kernel
theorem dX4_init_40 : decode cX4_init 40 = .ok (.putfield 29, 3) := by decide +kernel
theorem dX4_init_43 : decode cX4_init 43 = .ok (.return_, 1) := by decide +kernel
set_option maxRecDepth 20000 in
theorem ggX4_controller_X1_init : GoodIn wsX4_controller wsX1_init := goodIn_r _ [8, 9, 10, 11, 12, 13, 14, 15, 16, 17, 18, 19, 20, 21, 22, 23, 24, 25, 26, 27, 28, 29, 30, 31, 40, 41, 42, 43, 44, 45, 46, 47, 48, 49, 50, 51, 52, 53, 54, 55, 56, 57, 58, 59, 60] (by decide +kernel) (by decide +kernel)
set_option maxRecDepth 20000 in
theorem gX4_controller_X1_init : GoodIn wsX4_controller (wsX1_init) := ggX4_controller_X1_init
theorem dX4_controller_0 : decode cX4_controller 0 = .ok (.iload_n 1, 1) := by decide +kernel
theorem dX4_controller_1 : decode cX4_controller 1 = .ok (.iconst 1, 1) := by decide +kernel
theorem dX4_controller_2 : decode cX4_controller 2 = .ok (.if_icmp .lt 9, 3) := by decide +kernel
theorem dX4_controller_5 : decode cX4_controller 5 = .ok (.iload_n 1, 1) := by decide +kernel
theorem dX4_controller_6 : decode cX4_controller 6 = .ok (.bipush 127, 2) := by decide +kernel
theorem dX4_controller_8 : decode cX4_controller 8 = .ok (.if_icmp .le 6, 3) := by decide +kernel
theorem dX4_controller_11 : decode cX4_controller 11 = .ok (.bipush (-2), 2) := by decide +kernel
theorem dX4_controller_13 : decode cX4_controller 13 = .ok (.ireturn, 1) := by decide +kernel
theorem dX4_controller_14 : decode cX4_controller 14 = .ok (.aload_n 0, 1) := by decide +kernel
theorem dX4_controller_15 : decode cX4_controller 15 = .ok (.getfield 33, 3) := by decide +kernel
theorem dX4_controller_18 : decode cX4_controller 18 = .ok (.bipush 8, 2) := by decide +kernel
theorem dX4_controller_20 : decode cX4_controller 20 = .ok (.if_icmp .lt 6, 3) := by decide +kernel
theorem dX4_controller_23 : decode cX4_controller 23 = .ok (.bipush (-4), 2) := by decide +kernel
theorem dX4_controller_25 : decode cX4_controller 25 = .ok (.ireturn, 1) := by decide +kernel
theorem dX4_controller_26 : decode cX4_controller 26 = .ok (.aload_n 0, 1) := by decide +kernel
theorem dX4_controller_27 : decode cX4_controller 27 = .ok (.getfield 11, 3) := by decide +kernel
theorem dX4_controller_30 : decode cX4_controller 30 = .ok (.aload_n 0, 1) := by decide +kernel
theorem dX4_controller_31 : decode cX4_controller 31 = .ok (.getfield 33, 3) := by decide +kernel
theorem dX4_controller_34 : decode cX4_controller 34 = .ok (.new 9, 3) := by decide +kernel
theorem dX4_controller_37 : decode cX4_controller 37 = .ok (.dup, 1) := by decide +kernel
theorem dX4_controller_38 : decode cX4_controller 38 = .ok (.iload_n 1, 1) := by decide +kernel
theorem dX4_controller_39 : decode cX4_controller 39 = .ok (.invokespecial 37, 3) := by decide +kernel
theorem dX4_controller_42 : decode cX4_controller 42 = .ok (.aastore, 1) := by decide +kernel
theorem dX4_controller_43 : decode cX4_controller 43 = .ok (.aload_n 0, 1) := by decide +kernel
theorem dX4_controller_44 : decode cX4_controller 44 = .ok (.dup, 1) := by decide +kernel
theorem dX4_controller_45 : decode cX4_controller 45 = .ok (.getfield 33, 3) := by decide +kernel
theorem dX4_controller_48 : decode cX4_controller 48 = .ok (.iconst 1, 1) := by decide +kernel
theorem dX4_controller_49 : decode cX4_controller 49 = .ok (.iadd, 1) := by decide +kernel
theorem dX4_controller_50 : decode cX4_controller 50 = .ok (.putfield 33, 3) := by decide +kernel
theorem dX4_controller_53 : decode cX4_controller 53 = .ok (.aload_n 0, 1) := by decide +kernel
theorem dX4_controller_54 : decode cX4_controller 54 = .ok (.getfield 33, 3) := by decide +kernel
theorem dX4_controller_57 : decode cX4_controller 57 = .ok (.ireturn, 1) := by decide +kernel
theorem dX4_octet_0 : decode cX4_octet 0 = .ok (.aload_n 0, 1) := by decide +kernel
theorem dX4_octet_1 : decode cX4_octet 1 = .ok (.getfield 40, 3) := by decide +kernel
theorem dX4_octet_4 : decode cX4_octet 4 = .ok (.sipush 256, 3) := by decide +kernel
theorem dX4_octet_7 : decode cX4_octet 7 = .ok (.if_icmp .ge 23, 3) := by decide +kernel
theorem dX4_octet_10 : decode cX4_octet 10 = .ok (.aload_n 0, 1) := by decide +kernel
theorem dX4_octet_11 : decode cX4_octet 11 = .ok (.getfield 15, 3) := by decide +kernel
theorem dX4_octet_14 : decode cX4_octet 14 = .ok (.aload_n 0, 1) := by decide +kernel
theorem dX4_octet_15 : decode cX4_octet 15 = .ok (.getfield 40, 3) := by decide +kernel
theorem dX4_octet_18 : decode cX4_octet 18 = .ok (.iload_n 1, 1) := by decide +kernel
theorem dX4_octet_19 : decode cX4_octet 19 = .ok (.bastore, 1) := by decide +kernel
theorem dX4_octet_20 : decode cX4_octet 20 = .ok (.aload_n 0, 1) := by decide +kernel
theorem dX4_octet_21 : decode cX4_octet 21 = .ok (.dup, 1) := by decide +kernel
theorem dX4_octet_22 : decode cX4_octet 22 = .ok (.getfield 40, 3) := by decide +kernel
theorem dX4_octet_25 : decode cX4_octet 25 = .ok (.iconst 1, 1) := by decide +kernel
theorem dX4_octet_26 : decode cX4_octet 26 = .ok (.iadd, 1) := by decide +kernel
theorem dX4_octet_27 : decode cX4_octet 27 = .ok (.putfield 40, 3) := by decide +kernel
theorem dX4_octet_30 : decode cX4_octet 30 = .ok (.return_, 1) := by decide +kernel
set_option maxRecDepth 20000 in
theorem ggX4_package0_X4_find : GoodIn wsX4_package0 wsX4_find := goodIn_r _ [10, 11, 12, 69, 70, 71, 72, 73, 74, 75, 76] (by decide +kernel) (by decide +kernel)
set_option maxRecDepth 20000 in
theorem gX4_package0_X4_find : GoodIn wsX4_package0 (wsV RX4 43 RX4 yX4_find wsX4_find) := goodIn_app (goodIn_of _ (by decide +kernel)) ggX4_package0_X4_find
set_option maxRecDepth 20000 in
theorem ggX4_package0_X4_refusalOf : GoodIn wsX4_package0 wsX4_refusalOf := goodIn_ca (goodIn_r _ [16, 4, 2, 17, 1, 3, 18, 19, 69, 70, 71, 72, 73, 74, 75, 76, 77, 78, 79, 80, 81, 82, 83, 84, 85, 86, 87, 88, 89, 90, 91, 92, 93, 94] (by decide +kernel) (by decide +kernel)) (goodIn_sub (fun _ h => List.mem_cons_of_mem _ (List.mem_append_right _ h)) (by decide +kernel))
set_option maxRecDepth 20000 in
theorem gX4_package0_X4_refusalOf : GoodIn wsX4_package0 (wsV RX4 47 RX4 yX4_refusalOf wsX4_refusalOf) := goodIn_app (goodIn_of _ (by decide +kernel)) ggX4_package0_X4_refusalOf
set_option maxRecDepth 20000 in
theorem ggX4_package0_X3_begin : GoodIn wsX4_package0 wsX3_begin := goodIn_ca (goodIn_r _ [24, 25, 26, 27, 28, 29, 30, 31, 32, 87, 88, 89, 90, 91, 92, 93, 94] (by decide +kernel) (by decide +kernel)) (goodIn_sub (fun _ h => List.mem_cons_of_mem _ (List.mem_append_right _ h)) (by decide +kernel))
set_option maxRecDepth 20000 in
theorem gX4_package0_X3_begin : GoodIn wsX4_package0 (wsV RX4 58 RX3 yX3_begin wsX3_begin) := goodIn_app (goodIn_of _ (by decide +kernel)) ggX4_package0_X3_begin
set_option maxRecDepth 20000 in
theorem ggX4_package0_X2_digestOf : GoodIn wsX4_package0 wsX2_digestOf := goodIn_ca (goodIn_r _ [37, 38, 39, 40, 41, 42, 36, 43, 44, 45, 46, 47, 48, 49, 50, 51, 52, 53, 54, 55, 56, 57, 58, 59, 60, 61, 62, 63, 64, 65, 66, 67, 68, 95, 96, 97] (by decide +kernel) (by decide +kernel)) (goodIn_sub (fun _ h => List.mem_cons_of_mem _ (List.mem_append_right _ h)) (by decide +kernel))
set_option maxRecDepth 20000 in
theorem gX4_package0_X2_digestOf : GoodIn wsX4_package0 (wsV RX4 64 RX2 yX2_digestOf wsX2_digestOf) := goodIn_app (goodIn_of _ (by decide +kernel)) ggX4_package0_X2_digestOf
theorem dX4_package0_0 : decode cX4_package0 0 = .ok (.aload_n 0, 1) := by decide +kernel
theorem dX4_package0_1 : decode cX4_package0 1 = .ok (.iload_n 1, 1) := by decide +kernel
theorem dX4_package0_2 : decode cX4_package0 2 = .ok (.invokevirtual 43, 3) := by decide +kernel
theorem dX4_package0_5 : decode cX4_package0 5 = .ok (.astore 4, 2) := by decide +kernel
theorem dX4_package0_7 : decode cX4_package0 7 = .ok (.aload 4, 2) := by decide +kernel
theorem dX4_package0_9 : decode cX4_package0 9 = .ok (.ifnonnull 5, 3) := by decide +kernel
theorem dX4_package0_12 : decode cX4_package0 12 = .ok (.iconst (-1), 1) := by decide +kernel
theorem dX4_package0_13 : decode cX4_package0 13 = .ok (.ireturn, 1) := by decide +kernel
theorem dX4_package0_14 : decode cX4_package0 14 = .ok (.aload_n 0, 1) := by decide +kernel
theorem dX4_package0_15 : decode cX4_package0 15 = .ok (.aload 4, 2) := by decide +kernel
theorem dX4_package0_17 : decode cX4_package0 17 = .ok (.iload_n 2, 1) := by decide +kernel
theorem dX4_package0_18 : decode cX4_package0 18 = .ok (.iload_n 3, 1) := by decide +kernel
theorem dX4_package0_19 : decode cX4_package0 19 = .ok (.invokevirtual 47, 3) := by decide +kernel
theorem dX4_package0_22 : decode cX4_package0 22 = .ok (.istore 5, 2) := by decide +kernel
theorem dX4_package0_24 : decode cX4_package0 24 = .ok (.iload 5, 2) := by decide +kernel
theorem dX4_package0_26 : decode cX4_package0 26 = .ok (.ifCond .eq 6, 3) := by decide +kernel
theorem dX4_package0_29 : decode cX4_package0 29 = .ok (.iload 5, 2) := by decide +kernel
theorem dX4_package0_31 : decode cX4_package0 31 = .ok (.ireturn, 1) := by decide +kernel
theorem dX4_package0_32 : decode cX4_package0 32 = .ok (.aload_n 0, 1) := by decide +kernel
theorem dX4_package0_33 : decode cX4_package0 33 = .ok (.dup, 1) := by decide +kernel
theorem dX4_package0_34 : decode cX4_package0 34 = .ok (.getfield 51, 3) := by decide +kernel
theorem dX4_package0_37 : decode cX4_package0 37 = .ok (.iconst 1, 1) := by decide +kernel
theorem dX4_package0_38 : decode cX4_package0 38 = .ok (.iadd, 1) := by decide +kernel
theorem dX4_package0_39 : decode cX4_package0 39 = .ok (.putfield 51, 3) := by decide +kernel
theorem dX4_package0_42 : decode cX4_package0 42 = .ok (.aload 4, 2) := by decide +kernel
theorem dX4_package0_44 : decode cX4_package0 44 = .ok (.getfield 54, 3) := by decide +kernel
theorem dX4_package0_47 : decode cX4_package0 47 = .ok (.aload_n 0, 1) := by decide +kernel
theorem dX4_package0_48 : decode cX4_package0 48 = .ok (.getfield 51, 3) := by decide +kernel
theorem dX4_package0_51 : decode cX4_package0 51 = .ok (.iload_n 2, 1) := by decide +kernel
theorem dX4_package0_52 : decode cX4_package0 52 = .ok (.aload_n 0, 1) := by decide +kernel
theorem dX4_package0_53 : decode cX4_package0 53 = .ok (.getfield 15, 3) := by decide +kernel
theorem dX4_package0_56 : decode cX4_package0 56 = .ok (.aload_n 0, 1) := by decide +kernel
theorem dX4_package0_57 : decode cX4_package0 57 = .ok (.getfield 40, 3) := by decide +kernel
theorem dX4_package0_60 : decode cX4_package0 60 = .ok (.invokevirtual 58, 3) := by decide +kernel
theorem dX4_package0_63 : decode cX4_package0 63 = .ok (.aload_n 0, 1) := by decide +kernel
theorem dX4_package0_64 : decode cX4_package0 64 = .ok (.getfield 29, 3) := by decide +kernel
theorem dX4_package0_67 : decode cX4_package0 67 = .ok (.aload_n 0, 1) := by decide +kernel
theorem dX4_package0_68 : decode cX4_package0 68 = .ok (.getfield 15, 3) := by decide +kernel
theorem dX4_package0_71 : decode cX4_package0 71 = .ok (.aload_n 0, 1) := by decide +kernel
theorem dX4_package0_72 : decode cX4_package0 72 = .ok (.getfield 40, 3) := by decide +kernel
theorem dX4_package0_75 : decode cX4_package0 75 = .ok (.invokevirtual 64, 3) := by decide +kernel
theorem dX4_package0_78 : decode cX4_package0 78 = .ok (.aload_n 0, 1) := by decide +kernel
theorem dX4_package0_79 : decode cX4_package0 79 = .ok (.iconst 0, 1) := by decide +kernel
theorem dX4_package0_80 : decode cX4_package0 80 = .ok (.putfield 40, 3) := by decide +kernel
theorem dX4_package0_83 : decode cX4_package0 83 = .ok (.aload_n 0, 1) := by decide +kernel
theorem dX4_package0_84 : decode cX4_package0 84 = .ok (.getfield 51, 3) := by decide +kernel
theorem dX4_package0_87 : decode cX4_package0 87 = .ok (.ireturn, 1) := by decide +kernel
set_option maxRecDepth 20000 in
theorem ggX4_digest_X2_resultOctet : GoodIn wsX4_digest wsX2_resultOctet := goodIn_ca (goodIn_r _ [10, 11, 26, 27, 28] (by decide +kernel) (by decide +kernel)) (goodIn_sub (fun _ h => List.mem_cons_of_mem _ (List.mem_append_right _ h)) (by decide +kernel))
set_option maxRecDepth 20000 in
theorem gX4_digest_X2_resultOctet : GoodIn wsX4_digest (wsV RX4 75 RX2 yX2_resultOctet wsX2_resultOctet) := goodIn_app (goodIn_of _ (by decide +kernel)) ggX4_digest_X2_resultOctet
theorem dX4_digest_0 : decode cX4_digest 0 = .ok (.aload_n 0, 1) := by decide +kernel
theorem dX4_digest_1 : decode cX4_digest 1 = .ok (.getfield 51, 3) := by decide +kernel
theorem dX4_digest_4 : decode cX4_digest 4 = .ok (.ifCond .eq 13, 3) := by decide +kernel
theorem dX4_digest_7 : decode cX4_digest 7 = .ok (.iload_n 1, 1) := by decide +kernel
theorem dX4_digest_8 : decode cX4_digest 8 = .ok (.ifCond .lt 9, 3) := by decide +kernel
theorem dX4_digest_11 : decode cX4_digest 11 = .ok (.iload_n 1, 1) := by decide +kernel
theorem dX4_digest_12 : decode cX4_digest 12 = .ok (.bipush 32, 2) := by decide +kernel
theorem dX4_digest_14 : decode cX4_digest 14 = .ok (.if_icmp .lt 13, 3) := by decide +kernel
theorem dX4_digest_17 : decode cX4_digest 17 = .ok (.new 68, 3) := by decide +kernel
theorem dX4_digest_20 : decode cX4_digest 20 = .ok (.dup, 1) := by decide +kernel
theorem dX4_digest_21 : decode cX4_digest 21 = .ok (.ldc 70, 2) := by decide +kernel
theorem dX4_digest_23 : decode cX4_digest 23 = .ok (.invokespecial 72, 3) := by decide +kernel
theorem dX4_digest_26 : decode cX4_digest 26 = .ok (.athrow, 1) := by decide +kernel
theorem dX4_digest_27 : decode cX4_digest 27 = .ok (.aload_n 0, 1) := by decide +kernel
theorem dX4_digest_28 : decode cX4_digest 28 = .ok (.getfield 29, 3) := by decide +kernel
theorem dX4_digest_31 : decode cX4_digest 31 = .ok (.iload_n 1, 1) := by decide +kernel
theorem dX4_digest_32 : decode cX4_digest 32 = .ok (.invokevirtual 75, 3) := by decide +kernel
theorem dX4_digest_35 : decode cX4_digest 35 = .ok (.ireturn, 1) := by decide +kernel
set_option maxRecDepth 20000 in
theorem ggX4_needs_X4_isPackage : GoodIn wsX4_needs wsX4_isPackage := goodIn_r _ [7, 8, 37, 38, 39, 40, 41, 42, 43, 44] (by decide +kernel) (by decide +kernel)
set_option maxRecDepth 20000 in
theorem gX4_needs_X4_isPackage : GoodIn wsX4_needs (wsV RX4 79 RX4 yX4_isPackage wsX4_isPackage) := goodIn_app (goodIn_of _ (by decide +kernel)) ggX4_needs_X4_isPackage
set_option maxRecDepth 20000 in
theorem ggX4_needs_X4_findOpen : GoodIn wsX4_needs wsX4_findOpen := goodIn_r _ [12, 13, 14, 15, 16, 17, 37, 38, 39, 40, 41, 42, 43, 44, 45, 46, 47, 48, 49, 50, 51, 52, 53, 54, 29, 30, 31, 32, 33, 34, 35, 36] (by decide +kernel) (by decide +kernel)
set_option maxRecDepth 20000 in
theorem gX4_needs_X4_findOpen : GoodIn wsX4_needs (wsV RX4 83 RX4 yX4_findOpen wsX4_findOpen) := goodIn_app (goodIn_of _ (by decide +kernel)) ggX4_needs_X4_findOpen
set_option maxRecDepth 20000 in
theorem ggX4_needs_X4_joinSets : GoodIn wsX4_needs wsX4_joinSets := goodIn_r _ [21, 13, 14, 15, 2, 22, 23, 24, 25, 26, 27, 28, 37, 38, 39, 40, 41, 42, 43, 44, 45, 46, 47, 48, 49, 50, 51, 52, 53, 54, 29, 30, 31, 32, 33, 34, 35, 36] (by decide +kernel) (by decide +kernel)
set_option maxRecDepth 20000 in
theorem gX4_needs_X4_joinSets : GoodIn wsX4_needs (wsV RX4 93 RX4 yX4_joinSets wsX4_joinSets) := goodIn_app (goodIn_of _ (by decide +kernel)) ggX4_needs_X4_joinSets
theorem dX4_needs_0 : decode cX4_needs 0 = .ok (.aload_n 0, 1) := by decide +kernel
theorem dX4_needs_1 : decode cX4_needs 1 = .ok (.iload_n 1, 1) := by decide +kernel
theorem dX4_needs_2 : decode cX4_needs 2 = .ok (.invokevirtual 79, 3) := by decide +kernel
theorem dX4_needs_5 : decode cX4_needs 5 = .ok (.ifCond .eq 11, 3) := by decide +kernel
theorem dX4_needs_8 : decode cX4_needs 8 = .ok (.aload_n 0, 1) := by decide +kernel
theorem dX4_needs_9 : decode cX4_needs 9 = .ok (.iload_n 2, 1) := by decide +kernel
theorem dX4_needs_10 : decode cX4_needs 10 = .ok (.invokevirtual 79, 3) := by decide +kernel
theorem dX4_needs_13 : decode cX4_needs 13 = .ok (.ifCond .ne 5, 3) := by decide +kernel
theorem dX4_needs_16 : decode cX4_needs 16 = .ok (.iconst (-1), 1) := by decide +kernel
theorem dX4_needs_17 : decode cX4_needs 17 = .ok (.ireturn, 1) := by decide +kernel
theorem dX4_needs_18 : decode cX4_needs 18 = .ok (.iload_n 1, 1) := by decide +kernel
theorem dX4_needs_19 : decode cX4_needs 19 = .ok (.iload_n 2, 1) := by decide +kernel
theorem dX4_needs_20 : decode cX4_needs 20 = .ok (.if_icmp .ne 6, 3) := by decide +kernel
theorem dX4_needs_23 : decode cX4_needs 23 = .ok (.bipush (-2), 2) := by decide +kernel
theorem dX4_needs_25 : decode cX4_needs 25 = .ok (.ireturn, 1) := by decide +kernel
theorem dX4_needs_26 : decode cX4_needs 26 = .ok (.aload_n 0, 1) := by decide +kernel
theorem dX4_needs_27 : decode cX4_needs 27 = .ok (.iload_n 1, 1) := by decide +kernel
theorem dX4_needs_28 : decode cX4_needs 28 = .ok (.invokevirtual 83, 3) := by decide +kernel
theorem dX4_needs_31 : decode cX4_needs 31 = .ok (.astore_n 3, 1) := by decide +kernel
theorem dX4_needs_32 : decode cX4_needs 32 = .ok (.aload_n 0, 1) := by decide +kernel
theorem dX4_needs_33 : decode cX4_needs 33 = .ok (.iload_n 2, 1) := by decide +kernel
theorem dX4_needs_34 : decode cX4_needs 34 = .ok (.invokevirtual 83, 3) := by decide +kernel
theorem dX4_needs_37 : decode cX4_needs 37 = .ok (.astore 4, 2) := by decide +kernel
theorem dX4_needs_39 : decode cX4_needs 39 = .ok (.aload_n 3, 1) := by decide +kernel
theorem dX4_needs_40 : decode cX4_needs 40 = .ok (.ifnull 23, 3) := by decide +kernel
theorem dX4_needs_43 : decode cX4_needs 43 = .ok (.aload 4, 2) := by decide +kernel
theorem dX4_needs_45 : decode cX4_needs 45 = .ok (.ifnull 18, 3) := by decide +kernel
theorem dX4_needs_48 : decode cX4_needs 48 = .ok (.aload_n 3, 1) := by decide +kernel
theorem dX4_needs_49 : decode cX4_needs 49 = .ok (.getfield 87, 3) := by decide +kernel
theorem dX4_needs_52 : decode cX4_needs 52 = .ok (.ifCond .ne 11, 3) := by decide +kernel
theorem dX4_needs_55 : decode cX4_needs 55 = .ok (.aload 4, 2) := by decide +kernel
theorem dX4_needs_57 : decode cX4_needs 57 = .ok (.getfield 87, 3) := by decide +kernel
theorem dX4_needs_60 : decode cX4_needs 60 = .ok (.ifCond .eq 6, 3) := by decide +kernel
theorem dX4_needs_63 : decode cX4_needs 63 = .ok (.bipush (-3), 2) := by decide +kernel
theorem dX4_needs_65 : decode cX4_needs 65 = .ok (.ireturn, 1) := by decide +kernel
theorem dX4_needs_66 : decode cX4_needs 66 = .ok (.aload_n 0, 1) := by decide +kernel
theorem dX4_needs_67 : decode cX4_needs 67 = .ok (.aload_n 3, 1) := by decide +kernel
theorem dX4_needs_68 : decode cX4_needs 68 = .ok (.getfield 90, 3) := by decide +kernel
theorem dX4_needs_71 : decode cX4_needs 71 = .ok (.aload 4, 2) := by decide +kernel
theorem dX4_needs_73 : decode cX4_needs 73 = .ok (.getfield 90, 3) := by decide +kernel
theorem dX4_needs_76 : decode cX4_needs 76 = .ok (.invokevirtual 93, 3) := by decide +kernel
theorem dX4_needs_79 : decode cX4_needs 79 = .ok (.ireturn, 1) := by decide +kernel
set_option maxRecDepth 20000 in
theorem ggX4_block_X4_find : GoodIn wsX4_block wsX4_find := goodIn_r _ [7, 8, 9, 20, 21, 22, 23, 24, 25, 26, 27] (by decide +kernel) (by decide +kernel)
set_option maxRecDepth 20000 in
theorem gX4_block_X4_find : GoodIn wsX4_block (wsV RX4 43 RX4 yX4_find wsX4_find) := goodIn_app (goodIn_of _ (by decide +kernel)) ggX4_block_X4_find
theorem dX4_block_0 : decode cX4_block 0 = .ok (.aload_n 0, 1) := by decide +kernel
theorem dX4_block_1 : decode cX4_block 1 = .ok (.iload_n 1, 1) := by decide +kernel
theorem dX4_block_2 : decode cX4_block 2 = .ok (.invokevirtual 43, 3) := by decide +kernel
theorem dX4_block_5 : decode cX4_block 5 = .ok (.astore 4, 2) := by decide +kernel
theorem dX4_block_7 : decode cX4_block 7 = .ok (.aload 4, 2) := by decide +kernel
theorem dX4_block_9 : decode cX4_block 9 = .ok (.ifnonnull 5, 3) := by decide +kernel
theorem dX4_block_12 : decode cX4_block 12 = .ok (.iconst (-1), 1) := by decide +kernel
theorem dX4_block_13 : decode cX4_block 13 = .ok (.ireturn, 1) := by decide +kernel
theorem dX4_block_14 : decode cX4_block 14 = .ok (.iload_n 2, 1) := by decide +kernel
theorem dX4_block_15 : decode cX4_block 15 = .ok (.ifCond .lt 13, 3) := by decide +kernel
theorem dX4_block_18 : decode cX4_block 18 = .ok (.iload_n 2, 1) := by decide +kernel
theorem dX4_block_19 : decode cX4_block 19 = .ok (.bipush 16, 2) := by decide +kernel
theorem dX4_block_21 : decode cX4_block 21 = .ok (.if_icmp .ge 7, 3) := by decide +kernel
theorem dX4_block_24 : decode cX4_block 24 = .ok (.iload_n 3, 1) := by decide +kernel
theorem dX4_block_25 : decode cX4_block 25 = .ok (.ifCond .ne 6, 3) := by decide +kernel
theorem dX4_block_28 : decode cX4_block 28 = .ok (.bipush (-2), 2) := by decide +kernel
theorem dX4_block_30 : decode cX4_block 30 = .ok (.ireturn, 1) := by decide +kernel
theorem dX4_block_31 : decode cX4_block 31 = .ok (.aload 4, 2) := by decide +kernel
theorem dX4_block_33 : decode cX4_block 33 = .ok (.iload_n 2, 1) := by decide +kernel
theorem dX4_block_34 : decode cX4_block 34 = .ok (.putfield 97, 3) := by decide +kernel
theorem dX4_block_37 : decode cX4_block 37 = .ok (.aload 4, 2) := by decide +kernel
theorem dX4_block_39 : decode cX4_block 39 = .ok (.iload_n 3, 1) := by decide +kernel
theorem dX4_block_40 : decode cX4_block 40 = .ok (.putfield 100, 3) := by decide +kernel
theorem dX4_block_43 : decode cX4_block 43 = .ok (.iconst 1, 1) := by decide +kernel
theorem dX4_block_44 : decode cX4_block 44 = .ok (.ireturn, 1) := by decide +kernel
set_option maxRecDepth 20000 in
theorem ggX4_condition_X4_bothHold : GoodIn wsX4_condition wsX4_bothHold := goodIn_r _ [7, 1, 2, 8, 9, 10, 11, 12, 13, 14, 15] (by decide +kernel) (by decide +kernel)
set_option maxRecDepth 20000 in
theorem gX4_condition_X4_bothHold : GoodIn wsX4_condition (wsV RX4 104 RX4 yX4_bothHold wsX4_bothHold) := goodIn_app (goodIn_of _ (by decide +kernel)) ggX4_condition_X4_bothHold
theorem dX4_condition_0 : decode cX4_condition 0 = .ok (.iload_n 1, 1) := by decide +kernel
theorem dX4_condition_1 : decode cX4_condition 1 = .ok (.ifCond .ne 11, 3) := by decide +kernel
theorem dX4_condition_4 : decode cX4_condition 4 = .ok (.aload_n 0, 1) := by decide +kernel
theorem dX4_condition_5 : decode cX4_condition 5 = .ok (.iload_n 2, 1) := by decide +kernel
theorem dX4_condition_6 : decode cX4_condition 6 = .ok (.putfield 19, 3) := by decide +kernel
theorem dX4_condition_9 : decode cX4_condition 9 = .ok (.goto 18, 3) := by decide +kernel
theorem dX4_condition_12 : decode cX4_condition 12 = .ok (.iload_n 1, 1) := by decide +kernel
theorem dX4_condition_13 : decode cX4_condition 13 = .ok (.iconst 1, 1) := by decide +kernel
theorem dX4_condition_14 : decode cX4_condition 14 = .ok (.if_icmp .ne 11, 3) := by decide +kernel
theorem dX4_condition_17 : decode cX4_condition 17 = .ok (.aload_n 0, 1) := by decide +kernel
theorem dX4_condition_18 : decode cX4_condition 18 = .ok (.iload_n 2, 1) := by decide +kernel
theorem dX4_condition_19 : decode cX4_condition 19 = .ok (.putfield 23, 3) := by decide +kernel
theorem dX4_condition_22 : decode cX4_condition 22 = .ok (.goto 5, 3) := by decide +kernel
theorem dX4_condition_25 : decode cX4_condition 25 = .ok (.iconst (-1), 1) := by decide +kernel
theorem dX4_condition_26 : decode cX4_condition 26 = .ok (.ireturn, 1) := by decide +kernel
theorem dX4_condition_27 : decode cX4_condition 27 = .ok (.aload_n 0, 1) := by decide +kernel
theorem dX4_condition_28 : decode cX4_condition 28 = .ok (.invokevirtual 104, 3) := by decide +kernel
theorem dX4_condition_31 : decode cX4_condition 31 = .ok (.ifCond .eq 7, 3) := by decide +kernel
theorem dX4_condition_34 : decode cX4_condition 34 = .ok (.iconst 1, 1) := by decide +kernel
theorem dX4_condition_35 : decode cX4_condition 35 = .ok (.goto 4, 3) := by decide +kernel
theorem dX4_condition_38 : decode cX4_condition 38 = .ok (.iconst 0, 1) := by decide +kernel
theorem dX4_condition_39 : decode cX4_condition 39 = .ok (.ireturn, 1) := by decide +kernel
set_option maxRecDepth 20000 in
theorem ggX4_step_X4_find : GoodIn wsX4_step wsX4_find := goodIn_r _ [7, 8, 9, 107, 108, 109, 110, 111, 112, 113, 114] (by decide +kernel) (by decide +kernel)
set_option maxRecDepth 20000 in
theorem gX4_step_X4_find : GoodIn wsX4_step (wsV RX4 43 RX4 yX4_find wsX4_find) := goodIn_app (goodIn_of _ (by decide +kernel)) ggX4_step_X4_find
set_option maxRecDepth 20000 in
theorem ggX4_step_X1_isAway : GoodIn wsX4_step wsX1_isAway := goodIn_r _ [14, 15, 16, 89, 90, 91, 92, 93, 94, 95, 96, 97, 98] (by decide +kernel) (by decide +kernel)
set_option maxRecDepth 20000 in
theorem gX4_step_X1_isAway : GoodIn wsX4_step (wsV RX4 108 RX1 yX1_isAway wsX1_isAway) := goodIn_app (goodIn_of _ (by decide +kernel)) ggX4_step_X1_isAway
set_option maxRecDepth 20000 in
theorem ggX4_step_X4_stepOfReady : GoodIn wsX4_step wsX4_stepOfReady := goodIn_r _ [20, 1, 21, 22, 23, 24, 25, 6, 26, 2, 27, 28, 29, 13, 30, 31, 32, 33, 34, 35, 36, 37, 38, 8, 9, 39, 40, 41, 42, 43, 44, 45, 46, 47, 48, 49, 50, 51, 52, 53, 54, 55, 56, 57, 58, 59, 60, 61, 10, 11, 12, 14, 15, 16, 62, 63, 64, 65, 89, 90, 91, 92, 93, 94, 95, 96, 97, 98, 99, 100, 101, 102, 103, 104, 105, 106, 115, 116, 117, 107, 108, 109, 110, 111, 112, 113, 114] (by decide +kernel) (by decide +kernel)
set_option maxRecDepth 20000 in
theorem gX4_step_X4_stepOfReady : GoodIn wsX4_step (wsV RX4 114 RX4 yX4_stepOfReady wsX4_stepOfReady) := goodIn_app (goodIn_of _ (by decide +kernel)) ggX4_step_X4_stepOfReady
set_option maxRecDepth 20000 in
theorem ggX4_step_X4_bothHold : GoodIn wsX4_step wsX4_bothHold := goodIn_r _ [55, 56, 57, 107, 108, 109, 110, 111, 112, 113, 114] (by decide +kernel) (by decide +kernel)
set_option maxRecDepth 20000 in
theorem gX4_step_X4_bothHold : GoodIn wsX4_step (wsV RX4 104 RX4 yX4_bothHold wsX4_bothHold) := goodIn_app (goodIn_of _ (by decide +kernel)) ggX4_step_X4_bothHold
set_option maxRecDepth 20000 in
theorem ggX4_step_X1_writeNextBlock : GoodIn wsX4_step wsX1_writeNextBlock := goodIn_ca (goodIn_r _ [69, 32, 31, 70, 71, 72, 73, 74, 75, 76, 77, 78, 79, 80, 81, 82, 83, 13, 84, 85, 33, 86, 87, 88, 89, 90, 91, 92, 93, 94, 95, 96, 97, 98, 99, 100, 101, 102, 103, 104, 105, 106, 115, 116, 117] (by decide +kernel) (by decide +kernel)) (goodIn_sub (fun _ h => List.mem_cons_of_mem _ (List.mem_append_right _ h)) (by decide +kernel))
set_option maxRecDepth 20000 in
theorem gX4_step_X1_writeNextBlock : GoodIn wsX4_step (wsV RX4 118 RX1 yX1_writeNextBlock wsX1_writeNextBlock) := goodIn_app (goodIn_of _ (by decide +kernel)) ggX4_step_X1_writeNextBlock
theorem dX4_step_0 : decode cX4_step 0 = .ok (.aload_n 0, 1) := by decide +kernel
theorem dX4_step_1 : decode cX4_step 1 = .ok (.iload_n 1, 1) := by decide +kernel
theorem dX4_step_2 : decode cX4_step 2 = .ok (.invokevirtual 43, 3) := by decide +kernel
theorem dX4_step_5 : decode cX4_step 5 = .ok (.astore_n 2, 1) := by decide +kernel
theorem dX4_step_6 : decode cX4_step 6 = .ok (.aload_n 2, 1) := by decide +kernel
theorem dX4_step_7 : decode cX4_step 7 = .ok (.ifnonnull 5, 3) := by decide +kernel
theorem dX4_step_10 : decode cX4_step 10 = .ok (.iconst (-1), 1) := by decide +kernel
theorem dX4_step_11 : decode cX4_step 11 = .ok (.ireturn, 1) := by decide +kernel
theorem dX4_step_12 : decode cX4_step 12 = .ok (.aload_n 2, 1) := by decide +kernel
theorem dX4_step_13 : decode cX4_step 13 = .ok (.invokevirtual 108, 3) := by decide +kernel
theorem dX4_step_16 : decode cX4_step 16 = .ok (.ifCond .eq 6, 3) := by decide +kernel
theorem dX4_step_19 : decode cX4_step 19 = .ok (.bipush (-3), 2) := by decide +kernel
theorem dX4_step_21 : decode cX4_step 21 = .ok (.ireturn, 1) := by decide +kernel
theorem dX4_step_22 : decode cX4_step 22 = .ok (.aload_n 2, 1) := by decide +kernel
theorem dX4_step_23 : decode cX4_step 23 = .ok (.getfield 54, 3) := by decide +kernel
theorem dX4_step_26 : decode cX4_step 26 = .ok (.getfield 111, 3) := by decide +kernel
theorem dX4_step_29 : decode cX4_step 29 = .ok (.iconst 2, 1) := by decide +kernel
theorem dX4_step_30 : decode cX4_step 30 = .ok (.if_icmp .ne 9, 3) := by decide +kernel
theorem dX4_step_33 : decode cX4_step 33 = .ok (.aload_n 0, 1) := by decide +kernel
theorem dX4_step_34 : decode cX4_step 34 = .ok (.aload_n 2, 1) := by decide +kernel
theorem dX4_step_35 : decode cX4_step 35 = .ok (.invokevirtual 114, 3) := by decide +kernel
theorem dX4_step_38 : decode cX4_step 38 = .ok (.ireturn, 1) := by decide +kernel
theorem dX4_step_39 : decode cX4_step 39 = .ok (.aload_n 2, 1) := by decide +kernel
theorem dX4_step_40 : decode cX4_step 40 = .ok (.getfield 54, 3) := by decide +kernel
theorem dX4_step_43 : decode cX4_step 43 = .ok (.getfield 111, 3) := by decide +kernel
theorem dX4_step_46 : decode cX4_step 46 = .ok (.iconst 1, 1) := by decide +kernel
theorem dX4_step_47 : decode cX4_step 47 = .ok (.if_icmp .ne 14, 3) := by decide +kernel
theorem dX4_step_50 : decode cX4_step 50 = .ok (.aload_n 0, 1) := by decide +kernel
theorem dX4_step_51 : decode cX4_step 51 = .ok (.invokevirtual 104, 3) := by decide +kernel
theorem dX4_step_54 : decode cX4_step 54 = .ok (.ifCond .eq 7, 3) := by decide +kernel
theorem dX4_step_57 : decode cX4_step 57 = .ok (.aload_n 2, 1) := by decide +kernel
theorem dX4_step_58 : decode cX4_step 58 = .ok (.invokevirtual 118, 3) := by decide +kernel
theorem dX4_step_61 : decode cX4_step 61 = .ok (.aload_n 2, 1) := by decide +kernel
theorem dX4_step_62 : decode cX4_step 62 = .ok (.getfield 54, 3) := by decide +kernel
theorem dX4_step_65 : decode cX4_step 65 = .ok (.getfield 111, 3) := by decide +kernel
theorem dX4_step_68 : decode cX4_step 68 = .ok (.ireturn, 1) := by decide +kernel
set_option maxRecDepth 20000 in
theorem ggX4_cut_X3_loseBlock : GoodIn wsX4_cut wsX3_loseBlock := goodIn_r _ [9, 10, 11, 30, 31, 32, 33, 34, 35, 36, 37] (by decide +kernel) (by decide +kernel)
set_option maxRecDepth 20000 in
theorem gX4_cut_X3_loseBlock : GoodIn wsX4_cut (wsV RX4 124 RX3 yX3_loseBlock wsX3_loseBlock) := goodIn_app (goodIn_of _ (by decide +kernel)) ggX4_cut_X3_loseBlock
theorem dX4_cut_0 : decode cX4_cut 0 = .ok (.iconst 0, 1) := by decide +kernel
theorem dX4_cut_1 : decode cX4_cut 1 = .ok (.istore_n 1, 1) := by decide +kernel
theorem dX4_cut_2 : decode cX4_cut 2 = .ok (.iconst 0, 1) := by decide +kernel
theorem dX4_cut_3 : decode cX4_cut 3 = .ok (.istore_n 2, 1) := by decide +kernel
theorem dX4_cut_4 : decode cX4_cut 4 = .ok (.iload_n 2, 1) := by decide +kernel
theorem dX4_cut_5 : decode cX4_cut 5 = .ok (.aload_n 0, 1) := by decide +kernel
theorem dX4_cut_6 : decode cX4_cut 6 = .ok (.getfield 33, 3) := by decide +kernel
theorem dX4_cut_9 : decode cX4_cut 9 = .ok (.if_icmp .ge 38, 3) := by decide +kernel
theorem dX4_cut_12 : decode cX4_cut 12 = .ok (.aload_n 0, 1) := by decide +kernel
theorem dX4_cut_13 : decode cX4_cut 13 = .ok (.getfield 11, 3) := by decide +kernel
theorem dX4_cut_16 : decode cX4_cut 16 = .ok (.iload_n 2, 1) := by decide +kernel
theorem dX4_cut_17 : decode cX4_cut 17 = .ok (.aaload, 1) := by decide +kernel
theorem dX4_cut_18 : decode cX4_cut 18 = .ok (.astore_n 3, 1) := by decide +kernel
theorem dX4_cut_19 : decode cX4_cut 19 = .ok (.aload_n 3, 1) := by decide +kernel
theorem dX4_cut_20 : decode cX4_cut 20 = .ok (.getfield 121, 3) := by decide +kernel
theorem dX4_cut_23 : decode cX4_cut 23 = .ok (.ifCond .ne 6, 3) := by decide +kernel
theorem dX4_cut_26 : decode cX4_cut 26 = .ok (.iinc 1 1, 3) := by decide +kernel
theorem dX4_cut_29 : decode cX4_cut 29 = .ok (.aload_n 3, 1) := by decide +kernel
theorem dX4_cut_30 : decode cX4_cut 30 = .ok (.iconst 1, 1) := by decide +kernel
theorem dX4_cut_31 : decode cX4_cut 31 = .ok (.putfield 121, 3) := by decide +kernel
theorem dX4_cut_34 : decode cX4_cut 34 = .ok (.aload_n 3, 1) := by decide +kernel
theorem dX4_cut_35 : decode cX4_cut 35 = .ok (.getfield 54, 3) := by decide +kernel
theorem dX4_cut_38 : decode cX4_cut 38 = .ok (.invokevirtual 124, 3) := by decide +kernel
theorem dX4_cut_41 : decode cX4_cut 41 = .ok (.iinc 2 1, 3) := by decide +kernel
theorem dX4_cut_44 : decode cX4_cut 44 = .ok (.goto (-40), 3) := by decide +kernel
theorem dX4_cut_47 : decode cX4_cut 47 = .ok (.iload_n 1, 1) := by decide +kernel
theorem dX4_cut_48 : decode cX4_cut 48 = .ok (.ireturn, 1) := by decide +kernel
set_option maxRecDepth 20000 in
theorem ggX4_boot_X4_find : GoodIn wsX4_boot wsX4_find := goodIn_r _ [10, 11, 12, 69, 70, 71, 72, 73, 74, 75, 76] (by decide +kernel) (by decide +kernel)
set_option maxRecDepth 20000 in
theorem gX4_boot_X4_find : GoodIn wsX4_boot (wsV RX4 43 RX4 yX4_find wsX4_find) := goodIn_app (goodIn_of _ (by decide +kernel)) ggX4_boot_X4_find
set_option maxRecDepth 20000 in
theorem ggX4_boot_X4_switchBanks : GoodIn wsX4_boot wsX4_switchBanks := goodIn_r _ [16, 2, 3, 17, 18, 19, 20, 21, 22, 23, 24, 25, 26, 27, 28, 29, 9, 30, 11, 12, 31, 32, 33, 34, 35, 36, 37, 38, 39, 40, 41, 42, 43, 48, 49, 50, 51, 52, 53, 54, 55, 56, 57, 58, 59, 60, 61, 62, 63, 64, 65, 66, 67, 68, 69, 70, 71, 72, 73, 74, 75, 76] (by decide +kernel) (by decide +kernel)
set_option maxRecDepth 20000 in
theorem gX4_boot_X4_switchBanks : GoodIn wsX4_boot (wsV RX4 127 RX4 yX4_switchBanks wsX4_switchBanks) := goodIn_app (goodIn_of _ (by decide +kernel)) ggX4_boot_X4_switchBanks
set_option maxRecDepth 20000 in
theorem ggX4_boot_X1_runningBank : GoodIn wsX4_boot wsX1_runningBank := goodIn_r _ [47, 24, 23, 48, 49, 50, 51, 52, 53, 54, 55, 56, 57] (by decide +kernel) (by decide +kernel)
set_option maxRecDepth 20000 in
theorem gX4_boot_X1_runningBank : GoodIn wsX4_boot (wsV RX4 131 RX1 yX1_runningBank wsX1_runningBank) := goodIn_app (goodIn_of _ (by decide +kernel)) ggX4_boot_X1_runningBank
theorem dX4_boot_0 : decode cX4_boot 0 = .ok (.aload_n 0, 1) := by decide +kernel
theorem dX4_boot_1 : decode cX4_boot 1 = .ok (.iload_n 1, 1) := by decide +kernel
theorem dX4_boot_2 : decode cX4_boot 2 = .ok (.invokevirtual 43, 3) := by decide +kernel
theorem dX4_boot_5 : decode cX4_boot 5 = .ok (.astore_n 2, 1) := by decide +kernel
theorem dX4_boot_6 : decode cX4_boot 6 = .ok (.aload_n 2, 1) := by decide +kernel
theorem dX4_boot_7 : decode cX4_boot 7 = .ok (.ifnonnull 5, 3) := by decide +kernel
theorem dX4_boot_10 : decode cX4_boot 10 = .ok (.iconst (-1), 1) := by decide +kernel
theorem dX4_boot_11 : decode cX4_boot 11 = .ok (.ireturn, 1) := by decide +kernel
theorem dX4_boot_12 : decode cX4_boot 12 = .ok (.aload_n 2, 1) := by decide +kernel
theorem dX4_boot_13 : decode cX4_boot 13 = .ok (.getfield 121, 3) := by decide +kernel
theorem dX4_boot_16 : decode cX4_boot 16 = .ok (.ifCond .eq 34, 3) := by decide +kernel
theorem dX4_boot_19 : decode cX4_boot 19 = .ok (.aload_n 2, 1) := by decide +kernel
theorem dX4_boot_20 : decode cX4_boot 20 = .ok (.iconst 0, 1) := by decide +kernel
theorem dX4_boot_21 : decode cX4_boot 21 = .ok (.putfield 121, 3) := by decide +kernel
theorem dX4_boot_24 : decode cX4_boot 24 = .ok (.aload_n 2, 1) := by decide +kernel
theorem dX4_boot_25 : decode cX4_boot 25 = .ok (.getfield 54, 3) := by decide +kernel
theorem dX4_boot_28 : decode cX4_boot 28 = .ok (.getfield 111, 3) := by decide +kernel
theorem dX4_boot_31 : decode cX4_boot 31 = .ok (.iconst 2, 1) := by decide +kernel
theorem dX4_boot_32 : decode cX4_boot 32 = .ok (.if_icmp .ne 18, 3) := by decide +kernel
theorem dX4_boot_35 : decode cX4_boot 35 = .ok (.aload_n 2, 1) := by decide +kernel
theorem dX4_boot_36 : decode cX4_boot 36 = .ok (.getfield 54, 3) := by decide +kernel
theorem dX4_boot_39 : decode cX4_boot 39 = .ok (.getfield 87, 3) := by decide +kernel
theorem dX4_boot_42 : decode cX4_boot 42 = .ok (.ifCond .eq 8, 3) := by decide +kernel
theorem dX4_boot_45 : decode cX4_boot 45 = .ok (.aload_n 0, 1) := by decide +kernel
theorem dX4_boot_46 : decode cX4_boot 46 = .ok (.aload_n 2, 1) := by decide +kernel
theorem dX4_boot_47 : decode cX4_boot 47 = .ok (.invokevirtual 127, 3) := by decide +kernel
theorem dX4_boot_50 : decode cX4_boot 50 = .ok (.aload_n 2, 1) := by decide +kernel
theorem dX4_boot_51 : decode cX4_boot 51 = .ok (.invokevirtual 131, 3) := by decide +kernel
theorem dX4_boot_54 : decode cX4_boot 54 = .ok (.getfield 135, 3) := by decide +kernel
theorem dX4_boot_57 : decode cX4_boot 57 = .ok (.ireturn, 1) := by decide +kernel
set_option maxRecDepth 20000 in
theorem ggX4_bank_X4_find : GoodIn wsX4_bank wsX4_find := goodIn_r _ [11, 12, 13, 33, 34, 35, 36, 37, 38, 39, 40] (by decide +kernel) (by decide +kernel)
set_option maxRecDepth 20000 in
theorem gX4_bank_X4_find : GoodIn wsX4_bank (wsV RX4 43 RX4 yX4_find wsX4_find) := goodIn_app (goodIn_of _ (by decide +kernel)) ggX4_bank_X4_find
theorem dX4_bank_0 : decode cX4_bank 0 = .ok (.aload_n 0, 1) := by decide +kernel
theorem dX4_bank_1 : decode cX4_bank 1 = .ok (.iload_n 1, 1) := by decide +kernel
theorem dX4_bank_2 : decode cX4_bank 2 = .ok (.invokevirtual 43, 3) := by decide +kernel
theorem dX4_bank_5 : decode cX4_bank 5 = .ok (.astore 5, 2) := by decide +kernel
theorem dX4_bank_7 : decode cX4_bank 7 = .ok (.aload 5, 2) := by decide +kernel
theorem dX4_bank_9 : decode cX4_bank 9 = .ok (.ifnonnull 5, 3) := by decide +kernel
theorem dX4_bank_12 : decode cX4_bank 12 = .ok (.iconst 0, 1) := by decide +kernel
theorem dX4_bank_13 : decode cX4_bank 13 = .ok (.ireturn, 1) := by decide +kernel
theorem dX4_bank_14 : decode cX4_bank 14 = .ok (.iload_n 2, 1) := by decide +kernel
theorem dX4_bank_15 : decode cX4_bank 15 = .ok (.ifCond .lt 22, 3) := by decide +kernel
theorem dX4_bank_18 : decode cX4_bank 18 = .ok (.iload_n 2, 1) := by decide +kernel
theorem dX4_bank_19 : decode cX4_bank 19 = .ok (.iconst 2, 1) := by decide +kernel
theorem dX4_bank_20 : decode cX4_bank 20 = .ok (.if_icmp .ge 17, 3) := by decide +kernel
theorem dX4_bank_23 : decode cX4_bank 23 = .ok (.lload_n 3, 1) := by decide +kernel
theorem dX4_bank_24 : decode cX4_bank 24 = .ok (.lconst 0, 1) := by decide +kernel
theorem dX4_bank_25 : decode cX4_bank 25 = .ok (.lcmp, 1) := by decide +kernel
theorem dX4_bank_26 : decode cX4_bank 26 = .ok (.ifCond .lt 11, 3) := by decide +kernel
theorem dX4_bank_29 : decode cX4_bank 29 = .ok (.lload_n 3, 1) := by decide +kernel
theorem dX4_bank_30 : decode cX4_bank 30 = .ok (.ldc2_w 140, 3) := by decide +kernel
theorem dX4_bank_33 : decode cX4_bank 33 = .ok (.lcmp, 1) := by decide +kernel
theorem dX4_bank_34 : decode cX4_bank 34 = .ok (.ifCond .lt 13, 3) := by decide +kernel
theorem dX4_bank_37 : decode cX4_bank 37 = .ok (.new 68, 3) := by decide +kernel
theorem dX4_bank_40 : decode cX4_bank 40 = .ok (.dup, 1) := by decide +kernel
theorem dX4_bank_41 : decode cX4_bank 41 = .ok (.ldc 142, 2) := by decide +kernel
theorem dX4_bank_43 : decode cX4_bank 43 = .ok (.invokespecial 72, 3) := by decide +kernel
theorem dX4_bank_46 : decode cX4_bank 46 = .ok (.athrow, 1) := by decide +kernel
theorem dX4_bank_47 : decode cX4_bank 47 = .ok (.aload 5, 2) := by decide +kernel
theorem dX4_bank_49 : decode cX4_bank 49 = .ok (.getfield 144, 3) := by decide +kernel
theorem dX4_bank_52 : decode cX4_bank 52 = .ok (.iload_n 2, 1) := by decide +kernel
theorem dX4_bank_53 : decode cX4_bank 53 = .ok (.aaload, 1) := by decide +kernel
theorem dX4_bank_54 : decode cX4_bank 54 = .ok (.getfield 148, 3) := by decide +kernel
theorem dX4_bank_57 : decode cX4_bank 57 = .ok (.lload_n 3, 1) := by decide +kernel
theorem dX4_bank_58 : decode cX4_bank 58 = .ok (.l2i, 1) := by decide +kernel
theorem dX4_bank_59 : decode cX4_bank 59 = .ok (.baload, 1) := by decide +kernel
theorem dX4_bank_60 : decode cX4_bank 60 = .ok (.ireturn, 1) := by decide +kernel
set_option maxRecDepth 20000 in
theorem ggX4_joint_X4_hasLastSet : GoodIn wsX4_joint wsX4_hasLastSet := goodIn_r _ [9, 1, 2, 10, 11, 12, 13, 14, 15, 22, 23, 24, 25, 26, 27, 28, 29, 33, 34, 35, 36, 37, 38, 39, 40, 41, 42] (by decide +kernel) (by decide +kernel)
set_option maxRecDepth 20000 in
theorem gX4_joint_X4_hasLastSet : GoodIn wsX4_joint (wsV RX4 149 RX4 yX4_hasLastSet wsX4_hasLastSet) := goodIn_app (goodIn_of _ (by decide +kernel)) ggX4_joint_X4_hasLastSet
set_option maxRecDepth 20000 in
theorem ggX4_joint_X1_isOfLastSet : GoodIn wsX4_joint wsX1_isOfLastSet := goodIn_r _ [14, 15, 33, 34, 35, 36, 37, 38, 39, 40, 41, 42] (by decide +kernel) (by decide +kernel)
set_option maxRecDepth 20000 in
theorem gX4_joint_X1_isOfLastSet : GoodIn wsX4_joint (wsV RX4 152 RX1 yX1_isOfLastSet wsX1_isOfLastSet) := goodIn_app (goodIn_of _ (by decide +kernel)) ggX4_joint_X1_isOfLastSet
set_option maxRecDepth 20000 in
theorem ggX4_joint_X1_runningBank : GoodIn wsX4_joint wsX1_runningBank := goodIn_r _ [19, 20, 21, 33, 34, 35, 36, 37, 38, 39, 40, 41, 42] (by decide +kernel) (by decide +kernel)
set_option maxRecDepth 20000 in
theorem gX4_joint_X1_runningBank : GoodIn wsX4_joint (wsV RX4 131 RX1 yX1_runningBank wsX1_runningBank) := goodIn_app (goodIn_of _ (by decide +kernel)) ggX4_joint_X1_runningBank
theorem dX4_joint_0 : decode cX4_joint 0 = .ok (.aload_n 0, 1) := by decide +kernel
theorem dX4_joint_1 : decode cX4_joint 1 = .ok (.invokevirtual 149, 3) := by decide +kernel
theorem dX4_joint_4 : decode cX4_joint 4 = .ok (.ifCond .ne 5, 3) := by decide +kernel
theorem dX4_joint_7 : decode cX4_joint 7 = .ok (.iconst 0, 1) := by decide +kernel
theorem dX4_joint_8 : decode cX4_joint 8 = .ok (.ireturn, 1) := by decide +kernel
theorem dX4_joint_9 : decode cX4_joint 9 = .ok (.iconst 0, 1) := by decide +kernel
theorem dX4_joint_10 : decode cX4_joint 10 = .ok (.istore_n 1, 1) := by decide +kernel
theorem dX4_joint_11 : decode cX4_joint 11 = .ok (.iload_n 1, 1) := by decide +kernel
theorem dX4_joint_12 : decode cX4_joint 12 = .ok (.aload_n 0, 1) := by decide +kernel
theorem dX4_joint_13 : decode cX4_joint 13 = .ok (.getfield 33, 3) := by decide +kernel
theorem dX4_joint_16 : decode cX4_joint 16 = .ok (.if_icmp .ge 39, 3) := by decide +kernel
theorem dX4_joint_19 : decode cX4_joint 19 = .ok (.aload_n 0, 1) := by decide +kernel
theorem dX4_joint_20 : decode cX4_joint 20 = .ok (.getfield 11, 3) := by decide +kernel
theorem dX4_joint_23 : decode cX4_joint 23 = .ok (.iload_n 1, 1) := by decide +kernel
theorem dX4_joint_24 : decode cX4_joint 24 = .ok (.aaload, 1) := by decide +kernel
theorem dX4_joint_25 : decode cX4_joint 25 = .ok (.astore_n 2, 1) := by decide +kernel
theorem dX4_joint_26 : decode cX4_joint 26 = .ok (.aload_n 2, 1) := by decide +kernel
theorem dX4_joint_27 : decode cX4_joint 27 = .ok (.invokevirtual 152, 3) := by decide +kernel
theorem dX4_joint_30 : decode cX4_joint 30 = .ok (.ifCond .eq 19, 3) := by decide +kernel
theorem dX4_joint_33 : decode cX4_joint 33 = .ok (.aload_n 2, 1) := by decide +kernel
theorem dX4_joint_34 : decode cX4_joint 34 = .ok (.invokevirtual 131, 3) := by decide +kernel
theorem dX4_joint_37 : decode cX4_joint 37 = .ok (.getfield 155, 3) := by decide +kernel
theorem dX4_joint_40 : decode cX4_joint 40 = .ok (.aload_n 2, 1) := by decide +kernel
theorem dX4_joint_41 : decode cX4_joint 41 = .ok (.getfield 158, 3) := by decide +kernel
theorem dX4_joint_44 : decode cX4_joint 44 = .ok (.if_icmp .eq 5, 3) := by decide +kernel
theorem dX4_joint_47 : decode cX4_joint 47 = .ok (.iconst 0, 1) := by decide +kernel
theorem dX4_joint_48 : decode cX4_joint 48 = .ok (.ireturn, 1) := by decide +kernel
theorem dX4_joint_49 : decode cX4_joint 49 = .ok (.iinc 1 1, 3) := by decide +kernel
theorem dX4_joint_52 : decode cX4_joint 52 = .ok (.goto (-41), 3) := by decide +kernel
theorem dX4_joint_55 : decode cX4_joint 55 = .ok (.iconst 1, 1) := by decide +kernel
theorem dX4_joint_56 : decode cX4_joint 56 = .ok (.ireturn, 1) := by decide +kernel
set_option maxRecDepth 20000 in
theorem ggX4_rollback_X4_hasLastSet : GoodIn wsX4_rollback wsX4_hasLastSet := goodIn_r _ [8, 1, 2, 9, 10, 11, 12, 13, 14, 35, 36, 37, 38, 39, 40, 41, 42, 43, 44, 45, 46, 47, 48, 49, 50, 51, 52] (by decide +kernel) (by decide +kernel)
set_option maxRecDepth 20000 in
theorem gX4_rollback_X4_hasLastSet : GoodIn wsX4_rollback (wsV RX4 149 RX4 yX4_hasLastSet wsX4_hasLastSet) := goodIn_app (goodIn_of _ (by decide +kernel)) ggX4_rollback_X4_hasLastSet
set_option maxRecDepth 20000 in
theorem ggX4_rollback_X4_lastSetMayGoBack : GoodIn wsX4_rollback wsX4_lastSetMayGoBack := goodIn_r _ [18, 1, 2, 19, 20, 9, 10, 11, 12, 13, 14, 21, 22, 23, 24, 25, 26, 35, 36, 37, 38, 39, 40, 41, 42, 43, 44, 45, 46, 47, 48, 49, 50, 51, 52, 53, 54, 55, 56, 57, 58, 59, 60] (by decide +kernel) (by decide +kernel)
set_option maxRecDepth 20000 in
theorem gX4_rollback_X4_lastSetMayGoBack : GoodIn wsX4_rollback (wsV RX4 161 RX4 yX4_lastSetMayGoBack wsX4_lastSetMayGoBack) := goodIn_app (goodIn_of _ (by decide +kernel)) ggX4_rollback_X4_lastSetMayGoBack
set_option maxRecDepth 20000 in
theorem ggX4_rollback_X1_isOfLastSet : GoodIn wsX4_rollback wsX1_isOfLastSet := goodIn_r _ [13, 14, 43, 44, 45, 46, 47, 48, 49, 50, 51, 52] (by decide +kernel) (by decide +kernel)
set_option maxRecDepth 20000 in
theorem gX4_rollback_X1_isOfLastSet : GoodIn wsX4_rollback (wsV RX4 152 RX1 yX1_isOfLastSet wsX1_isOfLastSet) := goodIn_app (goodIn_of _ (by decide +kernel)) ggX4_rollback_X1_isOfLastSet
set_option maxRecDepth 20000 in
theorem ggX4_rollback_X1_runOtherBank : GoodIn wsX4_rollback wsX1_runOtherBank := goodIn_r _ [30, 31, 32, 33, 34, 43, 44, 45, 46, 47, 48, 49, 50, 51, 52, 61, 62, 63] (by decide +kernel) (by decide +kernel)
set_option maxRecDepth 20000 in
theorem gX4_rollback_X1_runOtherBank : GoodIn wsX4_rollback (wsV RX4 164 RX1 yX1_runOtherBank wsX1_runOtherBank) := goodIn_app (goodIn_of _ (by decide +kernel)) ggX4_rollback_X1_runOtherBank
