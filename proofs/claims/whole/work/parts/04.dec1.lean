theorem dX0_init_0 : decode cX0_init 0 = .ok (.aload_n 0, 1) := by decide +kernel
theorem dX0_init_1 : decode cX0_init 1 = .ok (.invokespecial 3, 3) := by decide +kernel
theorem dX0_init_4 : decode cX0_init 4 = .ok (.aload_n 0, 1) := by decide +kernel
theorem dX0_init_5 : decode cX0_init 5 = .ok (.sipush 256, 3) := by decide +kernel
theorem dX0_init_8 : decode cX0_init 8 = .ok (.newarray .byte, 2) := by decide +kernel
theorem dX0_init_10 : decode cX0_init 10 = .ok (.putfield 9, 3) := by decide +kernel
theorem dX0_init_13 : decode cX0_init 13 = .ok (.return_, 1) := by decide +kernel
set_option maxRecDepth 20000 in
theorem ggX1_init_X0_init : GoodIn wsX1_init wsX0_init := goodIn_r _ [15, 16, 2, 3, 17, 18, 34, 35, 36] (by decide +kernel) (by decide +kernel)
set_option maxRecDepth 20000 in
theorem gX1_init_X0_init : GoodIn wsX1_init (wsX0_init) := ggX1_init_X0_init
set_option maxRecDepth 20000 in
theorem ggX1_init_X3_init : GoodIn wsX1_init wsX3_init := goodIn_r _ [21, 22, 2, 3, 17, 23, 37, 38, 39, 40, 41, 42, 43, 44] (by decide +kernel) (by decide +kernel)
set_option maxRecDepth 20000 in
theorem gX1_init_X3_init : GoodIn wsX1_init (wsX3_init) := ggX1_init_X3_init
theorem dX1_init_0 : decode cX1_init 0 = .ok (.aload_n 0, 1) := by decide +kernel
theorem dX1_init_1 : decode cX1_init 1 = .ok (.invokespecial 3, 3) := by decide +kernel
theorem dX1_init_4 : decode cX1_init 4 = .ok (.aload_n 0, 1) := by decide +kernel
theorem dX1_init_5 : decode cX1_init 5 = .ok (.iload_n 1, 1) := by decide +kernel
theorem dX1_init_6 : decode cX1_init 6 = .ok (.putfield 9, 3) := by decide +kernel
theorem dX1_init_9 : decode cX1_init 9 = .ok (.aload_n 0, 1) := by decide +kernel
theorem dX1_init_10 : decode cX1_init 10 = .ok (.iconst 2, 1) := by decide +kernel
theorem dX1_init_11 : decode cX1_init 11 = .ok (.anewarray 15, 3) := by decide +kernel
theorem dX1_init_14 : decode cX1_init 14 = .ok (.putfield 17, 3) := by decide +kernel
theorem dX1_init_17 : decode cX1_init 17 = .ok (.aload_n 0, 1) := by decide +kernel
theorem dX1_init_18 : decode cX1_init 18 = .ok (.getfield 17, 3) := by decide +kernel
theorem dX1_init_21 : decode cX1_init 21 = .ok (.iconst 0, 1) := by decide +kernel
theorem dX1_init_22 : decode cX1_init 22 = .ok (.new 15, 3) := by decide +kernel
theorem dX1_init_25 : decode cX1_init 25 = .ok (.dup, 1) := by decide +kernel
theorem dX1_init_26 : decode cX1_init 26 = .ok (.invokespecial 21, 3) := by decide +kernel
theorem dX1_init_29 : decode cX1_init 29 = .ok (.aastore, 1) := by decide +kernel
theorem dX1_init_30 : decode cX1_init 30 = .ok (.aload_n 0, 1) := by decide +kernel
theorem dX1_init_31 : decode cX1_init 31 = .ok (.getfield 17, 3) := by decide +kernel
theorem dX1_init_34 : decode cX1_init 34 = .ok (.iconst 1, 1) := by decide +kernel
theorem dX1_init_35 : decode cX1_init 35 = .ok (.new 15, 3) := by decide +kernel
theorem dX1_init_38 : decode cX1_init 38 = .ok (.dup, 1) := by decide +kernel
theorem dX1_init_39 : decode cX1_init 39 = .ok (.invokespecial 21, 3) := by decide +kernel
theorem dX1_init_42 : decode cX1_init 42 = .ok (.aastore, 1) := by decide +kernel
theorem dX1_init_43 : decode cX1_init 43 = .ok (.aload_n 0, 1) := by decide +kernel
theorem dX1_init_44 : decode cX1_init 44 = .ok (.new 22, 3) := by decide +kernel
theorem dX1_init_47 : decode cX1_init 47 = .ok (.dup, 1) := by decide +kernel
theorem dX1_init_48 : decode cX1_init 48 = .ok (.invokespecial 24, 3) := by decide +kernel
theorem dX1_init_51 : decode cX1_init 51 = .ok (.putfield 25, 3) := by decide +kernel
theorem dX1_init_54 : decode cX1_init 54 = .ok (.return_, 1) := by decide +kernel
theorem dX1_isAway_0 : decode cX1_isAway 0 = .ok (.aload_n 0, 1) := by decide +kernel
theorem dX1_isAway_1 : decode cX1_isAway 1 = .ok (.getfield 29, 3) := by decide +kernel
theorem dX1_isAway_4 : decode cX1_isAway 4 = .ok (.ifCond .ne 10, 3) := by decide +kernel
theorem dX1_isAway_7 : decode cX1_isAway 7 = .ok (.aload_n 0, 1) := by decide +kernel
theorem dX1_isAway_8 : decode cX1_isAway 8 = .ok (.getfield 33, 3) := by decide +kernel
theorem dX1_isAway_11 : decode cX1_isAway 11 = .ok (.ifCond .eq 7, 3) := by decide +kernel
theorem dX1_isAway_14 : decode cX1_isAway 14 = .ok (.iconst 1, 1) := by decide +kernel
theorem dX1_isAway_15 : decode cX1_isAway 15 = .ok (.goto 4, 3) := by decide +kernel
theorem dX1_isAway_18 : decode cX1_isAway 18 = .ok (.iconst 0, 1) := by decide +kernel
theorem dX1_isAway_19 : decode cX1_isAway 19 = .ok (.ireturn, 1) := by decide +kernel
theorem dX1_isOfLastSet_0 : decode cX1_isOfLastSet 0 = .ok (.aload_n 0, 1) := by decide +kernel
theorem dX1_isOfLastSet_1 : decode cX1_isOfLastSet 1 = .ok (.getfield 36, 3) := by decide +kernel
theorem dX1_isOfLastSet_4 : decode cX1_isOfLastSet 4 = .ok (.ifCond .eq 7, 3) := by decide +kernel
theorem dX1_isOfLastSet_7 : decode cX1_isOfLastSet 7 = .ok (.iconst 1, 1) := by decide +kernel
theorem dX1_isOfLastSet_8 : decode cX1_isOfLastSet 8 = .ok (.goto 4, 3) := by decide +kernel
theorem dX1_isOfLastSet_11 : decode cX1_isOfLastSet 11 = .ok (.iconst 0, 1) := by decide +kernel
theorem dX1_isOfLastSet_12 : decode cX1_isOfLastSet 12 = .ok (.ireturn, 1) := by decide +kernel
theorem dX1_runningBank_0 : decode cX1_runningBank 0 = .ok (.aload_n 0, 1) := by decide +kernel
theorem dX1_runningBank_1 : decode cX1_runningBank 1 = .ok (.getfield 17, 3) := by decide +kernel
theorem dX1_runningBank_4 : decode cX1_runningBank 4 = .ok (.aload_n 0, 1) := by decide +kernel
theorem dX1_runningBank_5 : decode cX1_runningBank 5 = .ok (.getfield 39, 3) := by decide +kernel
theorem dX1_runningBank_8 : decode cX1_runningBank 8 = .ok (.aaload, 1) := by decide +kernel
theorem dX1_runningBank_9 : decode cX1_runningBank 9 = .ok (.areturn, 1) := by decide +kernel
theorem dX1_runOtherBank_0 : decode cX1_runOtherBank 0 = .ok (.aload_n 0, 1) := by decide +kernel
theorem dX1_runOtherBank_1 : decode cX1_runOtherBank 1 = .ok (.iconst 1, 1) := by decide +kernel
theorem dX1_runOtherBank_2 : decode cX1_runOtherBank 2 = .ok (.aload_n 0, 1) := by decide +kernel
theorem dX1_runOtherBank_3 : decode cX1_runOtherBank 3 = .ok (.getfield 39, 3) := by decide +kernel
theorem dX1_runOtherBank_6 : decode cX1_runOtherBank 6 = .ok (.isub, 1) := by decide +kernel
theorem dX1_runOtherBank_7 : decode cX1_runOtherBank 7 = .ok (.putfield 39, 3) := by decide +kernel
theorem dX1_runOtherBank_10 : decode cX1_runOtherBank 10 = .ok (.aload_n 0, 1) := by decide +kernel
theorem dX1_runOtherBank_11 : decode cX1_runOtherBank 11 = .ok (.aload_n 0, 1) := by decide +kernel
theorem dX1_runOtherBank_12 : decode cX1_runOtherBank 12 = .ok (.getfield 17, 3) := by decide +kernel
theorem dX1_runOtherBank_15 : decode cX1_runOtherBank 15 = .ok (.aload_n 0, 1) := by decide +kernel
theorem dX1_runOtherBank_16 : decode cX1_runOtherBank 16 = .ok (.getfield 39, 3) := by decide +kernel
theorem dX1_runOtherBank_19 : decode cX1_runOtherBank 19 = .ok (.aaload, 1) := by decide +kernel
theorem dX1_runOtherBank_20 : decode cX1_runOtherBank 20 = .ok (.getfield 42, 3) := by decide +kernel
theorem dX1_runOtherBank_23 : decode cX1_runOtherBank 23 = .ok (.putfield 45, 3) := by decide +kernel
theorem dX1_runOtherBank_26 : decode cX1_runOtherBank 26 = .ok (.return_, 1) := by decide +kernel
set_option maxRecDepth 20000 in
theorem ggX1_writeNextBlock_X1_completeBank : GoodIn wsX1_writeNextBlock wsX1_completeBank := goodIn_ca (goodIn_r _ [18, 3, 5, 12, 19, 20, 21, 22, 23, 24, 25, 26, 27, 28, 29, 30, 31, 32, 33, 34, 35, 36, 37, 38, 39, 40, 41, 42, 43, 44] (by decide +kernel) (by decide +kernel)) (goodIn_sub (fun _ h => List.mem_cons_of_mem _ (List.mem_append_right _ h)) (by decide +kernel))
set_option maxRecDepth 20000 in
theorem gX1_writeNextBlock_X1_completeBank : GoodIn wsX1_writeNextBlock (wsV RX1 72 RX1 yX1_completeBank wsX1_completeBank) := goodIn_app (goodIn_of _ (by decide +kernel)) ggX1_writeNextBlock_X1_completeBank
theorem dX1_writeNextBlock_0 : decode cX1_writeNextBlock 0 = .ok (.aload_n 0, 1) := by decide +kernel
theorem dX1_writeNextBlock_1 : decode cX1_writeNextBlock 1 = .ok (.getfield 17, 3) := by decide +kernel
theorem dX1_writeNextBlock_4 : decode cX1_writeNextBlock 4 = .ok (.iconst 1, 1) := by decide +kernel
theorem dX1_writeNextBlock_5 : decode cX1_writeNextBlock 5 = .ok (.aload_n 0, 1) := by decide +kernel
theorem dX1_writeNextBlock_6 : decode cX1_writeNextBlock 6 = .ok (.getfield 39, 3) := by decide +kernel
theorem dX1_writeNextBlock_9 : decode cX1_writeNextBlock 9 = .ok (.isub, 1) := by decide +kernel
theorem dX1_writeNextBlock_10 : decode cX1_writeNextBlock 10 = .ok (.aaload, 1) := by decide +kernel
theorem dX1_writeNextBlock_11 : decode cX1_writeNextBlock 11 = .ok (.astore_n 1, 1) := by decide +kernel
theorem dX1_writeNextBlock_12 : decode cX1_writeNextBlock 12 = .ok (.aload_n 0, 1) := by decide +kernel
theorem dX1_writeNextBlock_13 : decode cX1_writeNextBlock 13 = .ok (.getfield 25, 3) := by decide +kernel
theorem dX1_writeNextBlock_16 : decode cX1_writeNextBlock 16 = .ok (.getfield 48, 3) := by decide +kernel
theorem dX1_writeNextBlock_19 : decode cX1_writeNextBlock 19 = .ok (.bipush 16, 2) := by decide +kernel
theorem dX1_writeNextBlock_21 : decode cX1_writeNextBlock 21 = .ok (.imul, 1) := by decide +kernel
theorem dX1_writeNextBlock_22 : decode cX1_writeNextBlock 22 = .ok (.istore_n 2, 1) := by decide +kernel
theorem dX1_writeNextBlock_23 : decode cX1_writeNextBlock 23 = .ok (.iload_n 2, 1) := by decide +kernel
theorem dX1_writeNextBlock_24 : decode cX1_writeNextBlock 24 = .ok (.bipush 16, 2) := by decide +kernel
theorem dX1_writeNextBlock_26 : decode cX1_writeNextBlock 26 = .ok (.iadd, 1) := by decide +kernel
theorem dX1_writeNextBlock_27 : decode cX1_writeNextBlock 27 = .ok (.aload_n 0, 1) := by decide +kernel
theorem dX1_writeNextBlock_28 : decode cX1_writeNextBlock 28 = .ok (.getfield 25, 3) := by decide +kernel
theorem dX1_writeNextBlock_31 : decode cX1_writeNextBlock 31 = .ok (.getfield 51, 3) := by decide +kernel
theorem dX1_writeNextBlock_34 : decode cX1_writeNextBlock 34 = .ok (.invokestatic 54, 3) := by decide +kernel
theorem dX1_writeNextBlock_37 : decode cX1_writeNextBlock 37 = .ok (.istore_n 3, 1) := by decide +kernel
theorem dX1_writeNextBlock_38 : decode cX1_writeNextBlock 38 = .ok (.aload_n 0, 1) := by decide +kernel
theorem dX1_writeNextBlock_39 : decode cX1_writeNextBlock 39 = .ok (.getfield 60, 3) := by decide +kernel
theorem dX1_writeNextBlock_42 : decode cX1_writeNextBlock 42 = .ok (.ifCond .eq 21, 3) := by decide +kernel
theorem dX1_writeNextBlock_45 : decode cX1_writeNextBlock 45 = .ok (.aload_n 0, 1) := by decide +kernel
theorem dX1_writeNextBlock_46 : decode cX1_writeNextBlock 46 = .ok (.getfield 64, 3) := by decide +kernel
theorem dX1_writeNextBlock_49 : decode cX1_writeNextBlock 49 = .ok (.aload_n 0, 1) := by decide +kernel
theorem dX1_writeNextBlock_50 : decode cX1_writeNextBlock 50 = .ok (.getfield 25, 3) := by decide +kernel
theorem dX1_writeNextBlock_53 : decode cX1_writeNextBlock 53 = .ok (.getfield 48, 3) := by decide +kernel
theorem dX1_writeNextBlock_56 : decode cX1_writeNextBlock 56 = .ok (.if_icmp .ne 7, 3) := by decide +kernel
theorem dX1_writeNextBlock_59 : decode cX1_writeNextBlock 59 = .ok (.iconst 1, 1) := by decide +kernel
theorem dX1_writeNextBlock_60 : decode cX1_writeNextBlock 60 = .ok (.goto 4, 3) := by decide +kernel
theorem dX1_writeNextBlock_63 : decode cX1_writeNextBlock 63 = .ok (.iconst 0, 1) := by decide +kernel
theorem dX1_writeNextBlock_64 : decode cX1_writeNextBlock 64 = .ok (.istore 4, 2) := by decide +kernel
theorem dX1_writeNextBlock_66 : decode cX1_writeNextBlock 66 = .ok (.iload 4, 2) := by decide +kernel
theorem dX1_writeNextBlock_68 : decode cX1_writeNextBlock 68 = .ok (.ifCond .eq 10, 3) := by decide +kernel
theorem dX1_writeNextBlock_71 : decode cX1_writeNextBlock 71 = .ok (.aload_n 0, 1) := by decide +kernel
theorem dX1_writeNextBlock_72 : decode cX1_writeNextBlock 72 = .ok (.getfield 60, 3) := by decide +kernel
theorem dX1_writeNextBlock_75 : decode cX1_writeNextBlock 75 = .ok (.goto 4, 3) := by decide +kernel
theorem dX1_writeNextBlock_78 : decode cX1_writeNextBlock 78 = .ok (.iconst 0, 1) := by decide +kernel
theorem dX1_writeNextBlock_79 : decode cX1_writeNextBlock 79 = .ok (.istore 5, 2) := by decide +kernel
theorem dX1_writeNextBlock_81 : decode cX1_writeNextBlock 81 = .ok (.iload_n 2, 1) := by decide +kernel
theorem dX1_writeNextBlock_82 : decode cX1_writeNextBlock 82 = .ok (.istore 6, 2) := by decide +kernel
theorem dX1_writeNextBlock_84 : decode cX1_writeNextBlock 84 = .ok (.iload 6, 2) := by decide +kernel
theorem dX1_writeNextBlock_86 : decode cX1_writeNextBlock 86 = .ok (.iload_n 3, 1) := by decide +kernel
theorem dX1_writeNextBlock_87 : decode cX1_writeNextBlock 87 = .ok (.if_icmp .ge 30, 3) := by decide +kernel
theorem dX1_writeNextBlock_90 : decode cX1_writeNextBlock 90 = .ok (.aload_n 1, 1) := by decide +kernel
theorem dX1_writeNextBlock_91 : decode cX1_writeNextBlock 91 = .ok (.getfield 67, 3) := by decide +kernel
theorem dX1_writeNextBlock_94 : decode cX1_writeNextBlock 94 = .ok (.iload 6, 2) := by decide +kernel
theorem dX1_writeNextBlock_96 : decode cX1_writeNextBlock 96 = .ok (.aload_n 0, 1) := by decide +kernel
theorem dX1_writeNextBlock_97 : decode cX1_writeNextBlock 97 = .ok (.getfield 25, 3) := by decide +kernel
theorem dX1_writeNextBlock_100 : decode cX1_writeNextBlock 100 = .ok (.getfield 71, 3) := by decide +kernel
theorem dX1_writeNextBlock_103 : decode cX1_writeNextBlock 103 = .ok (.iload 6, 2) := by decide +kernel
theorem dX1_writeNextBlock_105 : decode cX1_writeNextBlock 105 = .ok (.baload, 1) := by decide +kernel
theorem dX1_writeNextBlock_106 : decode cX1_writeNextBlock 106 = .ok (.iload 5, 2) := by decide +kernel
theorem dX1_writeNextBlock_108 : decode cX1_writeNextBlock 108 = .ok (.ixor, 1) := by decide +kernel
theorem dX1_writeNextBlock_109 : decode cX1_writeNextBlock 109 = .ok (.i2b, 1) := by decide +kernel
theorem dX1_writeNextBlock_110 : decode cX1_writeNextBlock 110 = .ok (.bastore, 1) := by decide +kernel
theorem dX1_writeNextBlock_111 : decode cX1_writeNextBlock 111 = .ok (.iinc 6 1, 3) := by decide +kernel
theorem dX1_writeNextBlock_114 : decode cX1_writeNextBlock 114 = .ok (.goto (-30), 3) := by decide +kernel
theorem dX1_writeNextBlock_117 : decode cX1_writeNextBlock 117 = .ok (.iload 4, 2) := by decide +kernel
theorem dX1_writeNextBlock_119 : decode cX1_writeNextBlock 119 = .ok (.ifCond .eq 9, 3) := by decide +kernel
theorem dX1_writeNextBlock_122 : decode cX1_writeNextBlock 122 = .ok (.aload_n 0, 1) := by decide +kernel
theorem dX1_writeNextBlock_123 : decode cX1_writeNextBlock 123 = .ok (.iconst 0, 1) := by decide +kernel
theorem dX1_writeNextBlock_124 : decode cX1_writeNextBlock 124 = .ok (.putfield 60, 3) := by decide +kernel
theorem dX1_writeNextBlock_127 : decode cX1_writeNextBlock 127 = .ok (.return_, 1) := by decide +kernel
theorem dX1_writeNextBlock_128 : decode cX1_writeNextBlock 128 = .ok (.aload_n 0, 1) := by decide +kernel
theorem dX1_writeNextBlock_129 : decode cX1_writeNextBlock 129 = .ok (.getfield 25, 3) := by decide +kernel
theorem dX1_writeNextBlock_132 : decode cX1_writeNextBlock 132 = .ok (.dup, 1) := by decide +kernel
theorem dX1_writeNextBlock_133 : decode cX1_writeNextBlock 133 = .ok (.getfield 48, 3) := by decide +kernel
theorem dX1_writeNextBlock_136 : decode cX1_writeNextBlock 136 = .ok (.iconst 1, 1) := by decide +kernel
theorem dX1_writeNextBlock_137 : decode cX1_writeNextBlock 137 = .ok (.iadd, 1) := by decide +kernel
theorem dX1_writeNextBlock_138 : decode cX1_writeNextBlock 138 = .ok (.putfield 48, 3) := by decide +kernel
theorem dX1_writeNextBlock_141 : decode cX1_writeNextBlock 141 = .ok (.iload_n 3, 1) := by decide +kernel
theorem dX1_writeNextBlock_142 : decode cX1_writeNextBlock 142 = .ok (.aload_n 0, 1) := by decide +kernel
theorem dX1_writeNextBlock_143 : decode cX1_writeNextBlock 143 = .ok (.getfield 25, 3) := by decide +kernel
theorem dX1_writeNextBlock_146 : decode cX1_writeNextBlock 146 = .ok (.getfield 51, 3) := by decide +kernel
theorem dX1_writeNextBlock_149 : decode cX1_writeNextBlock 149 = .ok (.if_icmp .ne 8, 3) := by decide +kernel
theorem dX1_writeNextBlock_152 : decode cX1_writeNextBlock 152 = .ok (.aload_n 0, 1) := by decide +kernel
theorem dX1_writeNextBlock_153 : decode cX1_writeNextBlock 153 = .ok (.aload_n 1, 1) := by decide +kernel
theorem dX1_writeNextBlock_154 : decode cX1_writeNextBlock 154 = .ok (.invokevirtual 72, 3) := by decide +kernel
theorem dX1_writeNextBlock_157 : decode cX1_writeNextBlock 157 = .ok (.return_, 1) := by decide +kernel
theorem dX1_completeBank_0 : decode cX1_completeBank 0 = .ok (.aload_n 0, 1) := by decide +kernel
theorem dX1_completeBank_1 : decode cX1_completeBank 1 = .ok (.getfield 25, 3) := by decide +kernel
theorem dX1_completeBank_4 : decode cX1_completeBank 4 = .ok (.getfield 51, 3) := by decide +kernel
theorem dX1_completeBank_7 : decode cX1_completeBank 7 = .ok (.istore_n 2, 1) := by decide +kernel
theorem dX1_completeBank_8 : decode cX1_completeBank 8 = .ok (.iload_n 2, 1) := by decide +kernel
theorem dX1_completeBank_9 : decode cX1_completeBank 9 = .ok (.sipush 256, 3) := by decide +kernel
theorem dX1_completeBank_12 : decode cX1_completeBank 12 = .ok (.if_icmp .ge 16, 3) := by decide +kernel
theorem dX1_completeBank_15 : decode cX1_completeBank 15 = .ok (.aload_n 1, 1) := by decide +kernel
theorem dX1_completeBank_16 : decode cX1_completeBank 16 = .ok (.getfield 67, 3) := by decide +kernel
theorem dX1_completeBank_19 : decode cX1_completeBank 19 = .ok (.iload_n 2, 1) := by decide +kernel
theorem dX1_completeBank_20 : decode cX1_completeBank 20 = .ok (.iconst 0, 1) := by decide +kernel
theorem dX1_completeBank_21 : decode cX1_completeBank 21 = .ok (.bastore, 1) := by decide +kernel
theorem dX1_completeBank_22 : decode cX1_completeBank 22 = .ok (.iinc 2 1, 3) := by decide +kernel
theorem dX1_completeBank_25 : decode cX1_completeBank 25 = .ok (.goto (-17), 3) := by decide +kernel
theorem dX1_completeBank_28 : decode cX1_completeBank 28 = .ok (.aload_n 1, 1) := by decide +kernel
theorem dX1_completeBank_29 : decode cX1_completeBank 29 = .ok (.aload_n 0, 1) := by decide +kernel
theorem dX1_completeBank_30 : decode cX1_completeBank 30 = .ok (.getfield 25, 3) := by decide +kernel
theorem dX1_completeBank_33 : decode cX1_completeBank 33 = .ok (.getfield 76, 3) := by decide +kernel
theorem dX1_completeBank_36 : decode cX1_completeBank 36 = .ok (.putfield 42, 3) := by decide +kernel
theorem dX1_completeBank_39 : decode cX1_completeBank 39 = .ok (.aload_n 1, 1) := by decide +kernel
theorem dX1_completeBank_40 : decode cX1_completeBank 40 = .ok (.aload_n 0, 1) := by decide +kernel
theorem dX1_completeBank_41 : decode cX1_completeBank 41 = .ok (.getfield 25, 3) := by decide +kernel
theorem dX1_completeBank_44 : decode cX1_completeBank 44 = .ok (.getfield 77, 3) := by decide +kernel
theorem dX1_completeBank_47 : decode cX1_completeBank 47 = .ok (.putfield 80, 3) := by decide +kernel
theorem dX1_completeBank_50 : decode cX1_completeBank 50 = .ok (.aload_n 0, 1) := by decide +kernel
theorem dX1_completeBank_51 : decode cX1_completeBank 51 = .ok (.getfield 25, 3) := by decide +kernel
theorem dX1_completeBank_54 : decode cX1_completeBank 54 = .ok (.iconst 2, 1) := by decide +kernel
theorem dX1_completeBank_55 : decode cX1_completeBank 55 = .ok (.putfield 83, 3) := by decide +kernel
theorem dX1_completeBank_58 : decode cX1_completeBank 58 = .ok (.return_, 1) := by decide +kernel
theorem dX2_init_0 : decode cX2_init 0 = .ok (.aload_n 0, 1) := by decide +kernel
theorem dX2_init_1 : decode cX2_init 1 = .ok (.invokespecial 1, 3) := by decide +kernel
theorem dX2_init_4 : decode cX2_init 4 = .ok (.aload_n 0, 1) := by decide +kernel
theorem dX2_init_5 : decode cX2_init 5 = .ok (.sipush 320, 3) := by decide +kernel
theorem dX2_init_8 : decode cX2_init 8 = .ok (.newarray .byte, 2) := by decide +kernel
theorem dX2_init_10 : decode cX2_init 10 = .ok (.putfield 9, 3) := by decide +kernel
theorem dX2_init_13 : decode cX2_init 13 = .ok (.aload_n 0, 1) := by decide +kernel
theorem dX2_init_14 : decode cX2_init 14 = .ok (.bipush 64, 2) := by decide +kernel
theorem dX2_init_16 : decode cX2_init 16 = .ok (.newarray .int, 2) := by decide +kernel
theorem dX2_init_18 : decode cX2_init 18 = .ok (.putfield 13, 3) := by decide +kernel
theorem dX2_init_21 : decode cX2_init 21 = .ok (.aload_n 0, 1) := by decide +kernel
theorem dX2_init_22 : decode cX2_init 22 = .ok (.bipush 8, 2) := by decide +kernel
theorem dX2_init_24 : decode cX2_init 24 = .ok (.newarray .int, 2) := by decide +kernel
theorem dX2_init_26 : decode cX2_init 26 = .ok (.putfield 17, 3) := by decide +kernel
theorem dX2_init_29 : decode cX2_init 29 = .ok (.return_, 1) := by decide +kernel
theorem dX2_resultOctet_0 : decode cX2_resultOctet 0 = .ok (.aload_n 0, 1) := by decide +kernel
theorem dX2_resultOctet_1 : decode cX2_resultOctet 1 = .ok (.getfield 17, 3) := by decide +kernel
theorem dX2_resultOctet_4 : decode cX2_resultOctet 4 = .ok (.iload_n 1, 1) := by decide +kernel
theorem dX2_resultOctet_5 : decode cX2_resultOctet 5 = .ok (.iconst 2, 1) := by decide +kernel
theorem dX2_resultOctet_6 : decode cX2_resultOctet 6 = .ok (.ishr, 1) := by decide +kernel
theorem dX2_resultOctet_7 : decode cX2_resultOctet 7 = .ok (.bipush 7, 2) := by decide +kernel
theorem dX2_resultOctet_9 : decode cX2_resultOctet 9 = .ok (.iand, 1) := by decide +kernel
theorem dX2_resultOctet_10 : decode cX2_resultOctet 10 = .ok (.iaload, 1) := by decide +kernel
theorem dX2_resultOctet_11 : decode cX2_resultOctet 11 = .ok (.bipush 24, 2) := by decide +kernel
theorem dX2_resultOctet_13 : decode cX2_resultOctet 13 = .ok (.bipush 8, 2) := by decide +kernel
theorem dX2_resultOctet_15 : decode cX2_resultOctet 15 = .ok (.iload_n 1, 1) := by decide +kernel
theorem dX2_resultOctet_16 : decode cX2_resultOctet 16 = .ok (.iconst 3, 1) := by decide +kernel
theorem dX2_resultOctet_17 : decode cX2_resultOctet 17 = .ok (.iand, 1) := by decide +kernel
theorem dX2_resultOctet_18 : decode cX2_resultOctet 18 = .ok (.imul, 1) := by decide +kernel
theorem dX2_resultOctet_19 : decode cX2_resultOctet 19 = .ok (.isub, 1) := by decide +kernel
theorem dX2_resultOctet_20 : decode cX2_resultOctet 20 = .ok (.iushr, 1) := by decide +kernel
theorem dX2_resultOctet_21 : decode cX2_resultOctet 21 = .ok (.i2b, 1) := by decide +kernel
theorem dX2_resultOctet_22 : decode cX2_resultOctet 22 = .ok (.ireturn, 1) := by decide +kernel
set_option maxRecDepth 20000 in
theorem ggX2_digestOf_X2_layOut : GoodIn wsX2_digestOf wsX2_layOut := goodIn_ca (goodIn_r _ [7, 8, 9, 33, 34, 35] (by decide +kernel) (by decide +kernel)) (goodIn_sub (fun _ h => List.mem_cons_of_mem _ (List.mem_append_right _ h)) (by decide +kernel))
set_option maxRecDepth 20000 in
theorem gX2_digestOf_X2_layOut : GoodIn wsX2_digestOf (wsV RX2 20 RX2 yX2_layOut wsX2_layOut) := goodIn_app (goodIn_of _ (by decide +kernel)) ggX2_digestOf_X2_layOut
set_option maxRecDepth 20000 in
theorem ggX2_digestOf_X2_fillSchedule : GoodIn wsX2_digestOf wsX2_fillSchedule := goodIn_ca (goodIn_r _ [13, 14, 15, 16, 17, 6, 18, 8, 19, 20, 21, 22, 23, 24, 33, 34, 35] (by decide +kernel) (by decide +kernel)) (goodIn_sub (fun _ h => List.mem_cons_of_mem _ (List.mem_append_right _ h)) (by decide +kernel))
set_option maxRecDepth 20000 in
theorem gX2_digestOf_X2_fillSchedule : GoodIn wsX2_digestOf (wsV RX2 27 RX2 yX2_fillSchedule wsX2_fillSchedule) := goodIn_app (goodIn_of _ (by decide +kernel)) ggX2_digestOf_X2_fillSchedule
set_option maxRecDepth 20000 in
theorem ggX2_digestOf_X2_mix : GoodIn wsX2_digestOf wsX2_mix := goodIn_ca (goodIn_r _ [28, 1, 29, 14, 30, 31, 6, 32, 22, 23, 24, 33, 34, 35] (by decide +kernel) (by decide +kernel)) (goodIn_sub (fun _ h => List.mem_cons_of_mem _ (List.mem_append_right _ h)) (by decide +kernel))
set_option maxRecDepth 20000 in
theorem gX2_digestOf_X2_mix : GoodIn wsX2_digestOf (wsV RX2 31 RX2 yX2_mix wsX2_mix) := goodIn_app (goodIn_of _ (by decide +kernel)) ggX2_digestOf_X2_mix
theorem dX2_digestOf_0 : decode cX2_digestOf 0 = .ok (.aload_n 0, 1) := by decide +kernel
theorem dX2_digestOf_1 : decode cX2_digestOf 1 = .ok (.aload_n 1, 1) := by decide +kernel
theorem dX2_digestOf_2 : decode cX2_digestOf 2 = .ok (.iload_n 2, 1) := by decide +kernel
theorem dX2_digestOf_3 : decode cX2_digestOf 3 = .ok (.invokevirtual 20, 3) := by decide +kernel
theorem dX2_digestOf_6 : decode cX2_digestOf 6 = .ok (.istore_n 3, 1) := by decide +kernel
theorem dX2_digestOf_7 : decode cX2_digestOf 7 = .ok (.iconst 0, 1) := by decide +kernel
theorem dX2_digestOf_8 : decode cX2_digestOf 8 = .ok (.istore 4, 2) := by decide +kernel
theorem dX2_digestOf_10 : decode cX2_digestOf 10 = .ok (.iload 4, 2) := by decide +kernel
theorem dX2_digestOf_12 : decode cX2_digestOf 12 = .ok (.bipush 8, 2) := by decide +kernel
theorem dX2_digestOf_14 : decode cX2_digestOf 14 = .ok (.if_icmp .ge 22, 3) := by decide +kernel
theorem dX2_digestOf_17 : decode cX2_digestOf 17 = .ok (.aload_n 0, 1) := by decide +kernel
theorem dX2_digestOf_18 : decode cX2_digestOf 18 = .ok (.getfield 17, 3) := by decide +kernel
theorem dX2_digestOf_21 : decode cX2_digestOf 21 = .ok (.iload 4, 2) := by decide +kernel
theorem dX2_digestOf_23 : decode cX2_digestOf 23 = .ok (.getstatic 24, 3) := by decide +kernel
theorem dX2_digestOf_26 : decode cX2_digestOf 26 = .ok (.iload 4, 2) := by decide +kernel
theorem dX2_digestOf_28 : decode cX2_digestOf 28 = .ok (.iaload, 1) := by decide +kernel
theorem dX2_digestOf_29 : decode cX2_digestOf 29 = .ok (.iastore, 1) := by decide +kernel
theorem dX2_digestOf_30 : decode cX2_digestOf 30 = .ok (.iinc 4 1, 3) := by decide +kernel
theorem dX2_digestOf_33 : decode cX2_digestOf 33 = .ok (.goto (-23), 3) := by decide +kernel
theorem dX2_digestOf_36 : decode cX2_digestOf 36 = .ok (.iconst 0, 1) := by decide +kernel
theorem dX2_digestOf_37 : decode cX2_digestOf 37 = .ok (.istore 4, 2) := by decide +kernel
theorem dX2_digestOf_39 : decode cX2_digestOf 39 = .ok (.iload 4, 2) := by decide +kernel
theorem dX2_digestOf_41 : decode cX2_digestOf 41 = .ok (.iload_n 3, 1) := by decide +kernel
theorem dX2_digestOf_42 : decode cX2_digestOf 42 = .ok (.if_icmp .ge 19, 3) := by decide +kernel
theorem dX2_digestOf_45 : decode cX2_digestOf 45 = .ok (.aload_n 0, 1) := by decide +kernel
theorem dX2_digestOf_46 : decode cX2_digestOf 46 = .ok (.iload 4, 2) := by decide +kernel
theorem dX2_digestOf_48 : decode cX2_digestOf 48 = .ok (.invokevirtual 27, 3) := by decide +kernel
theorem dX2_digestOf_51 : decode cX2_digestOf 51 = .ok (.aload_n 0, 1) := by decide +kernel
theorem dX2_digestOf_52 : decode cX2_digestOf 52 = .ok (.invokevirtual 31, 3) := by decide +kernel
theorem dX2_digestOf_55 : decode cX2_digestOf 55 = .ok (.iinc 4 64, 3) := by decide +kernel
theorem dX2_digestOf_58 : decode cX2_digestOf 58 = .ok (.goto (-19), 3) := by decide +kernel
theorem dX2_digestOf_61 : decode cX2_digestOf 61 = .ok (.return_, 1) := by decide +kernel
theorem dX2_layOut_0 : decode cX2_layOut 0 = .ok (.iload_n 2, 1) := by decide +kernel
theorem dX2_layOut_1 : decode cX2_layOut 1 = .ok (.bipush 8, 2) := by decide +kernel
theorem dX2_layOut_3 : decode cX2_layOut 3 = .ok (.iadd, 1) := by decide +kernel
theorem dX2_layOut_4 : decode cX2_layOut 4 = .ok (.bipush 64, 2) := by decide +kernel
theorem dX2_layOut_6 : decode cX2_layOut 6 = .ok (.iadd, 1) := by decide +kernel
theorem dX2_layOut_7 : decode cX2_layOut 7 = .ok (.bipush 64, 2) := by decide +kernel
theorem dX2_layOut_9 : decode cX2_layOut 9 = .ok (.idiv, 1) := by decide +kernel
theorem dX2_layOut_10 : decode cX2_layOut 10 = .ok (.bipush 64, 2) := by decide +kernel
theorem dX2_layOut_12 : decode cX2_layOut 12 = .ok (.imul, 1) := by decide +kernel
theorem dX2_layOut_13 : decode cX2_layOut 13 = .ok (.istore_n 3, 1) := by decide +kernel
theorem dX2_layOut_14 : decode cX2_layOut 14 = .ok (.iconst 0, 1) := by decide +kernel
theorem dX2_layOut_15 : decode cX2_layOut 15 = .ok (.istore 4, 2) := by decide +kernel
theorem dX2_layOut_17 : decode cX2_layOut 17 = .ok (.iload 4, 2) := by decide +kernel
theorem dX2_layOut_19 : decode cX2_layOut 19 = .ok (.iload_n 3, 1) := by decide +kernel
theorem dX2_layOut_20 : decode cX2_layOut 20 = .ok (.if_icmp .ge 30, 3) := by decide +kernel
theorem dX2_layOut_23 : decode cX2_layOut 23 = .ok (.aload_n 0, 1) := by decide +kernel
theorem dX2_layOut_24 : decode cX2_layOut 24 = .ok (.getfield 9, 3) := by decide +kernel
theorem dX2_layOut_27 : decode cX2_layOut 27 = .ok (.iload 4, 2) := by decide +kernel
theorem dX2_layOut_29 : decode cX2_layOut 29 = .ok (.iload 4, 2) := by decide +kernel
theorem dX2_layOut_31 : decode cX2_layOut 31 = .ok (.iload_n 2, 1) := by decide +kernel
theorem dX2_layOut_32 : decode cX2_layOut 32 = .ok (.if_icmp .ge 10, 3) := by decide +kernel
theorem dX2_layOut_35 : decode cX2_layOut 35 = .ok (.aload_n 1, 1) := by decide +kernel
theorem dX2_layOut_36 : decode cX2_layOut 36 = .ok (.iload 4, 2) := by decide +kernel
theorem dX2_layOut_38 : decode cX2_layOut 38 = .ok (.baload, 1) := by decide +kernel
theorem dX2_layOut_39 : decode cX2_layOut 39 = .ok (.goto 4, 3) := by decide +kernel
theorem dX2_layOut_42 : decode cX2_layOut 42 = .ok (.iconst 0, 1) := by decide +kernel
theorem dX2_layOut_43 : decode cX2_layOut 43 = .ok (.bastore, 1) := by decide +kernel
theorem dX2_layOut_44 : decode cX2_layOut 44 = .ok (.iinc 4 1, 3) := by decide +kernel
theorem dX2_layOut_47 : decode cX2_layOut 47 = .ok (.goto (-30), 3) := by decide +kernel
theorem dX2_layOut_50 : decode cX2_layOut 50 = .ok (.aload_n 0, 1) := by decide +kernel
theorem dX2_layOut_51 : decode cX2_layOut 51 = .ok (.getfield 9, 3) := by decide +kernel
theorem dX2_layOut_54 : decode cX2_layOut 54 = .ok (.iload_n 2, 1) := by decide +kernel
theorem dX2_layOut_55 : decode cX2_layOut 55 = .ok (.bipush (-128), 2) := by decide +kernel
theorem dX2_layOut_57 : decode cX2_layOut 57 = .ok (.bastore, 1) := by decide +kernel
theorem dX2_layOut_58 : decode cX2_layOut 58 = .ok (.ldc2_w 34, 3) := by decide +kernel
theorem dX2_layOut_61 : decode cX2_layOut 61 = .ok (.iload_n 2, 1) := by decide +kernel
theorem dX2_layOut_62 : decode cX2_layOut 62 = .ok (.i2l, 1) := by decide +kernel
theorem dX2_layOut_63 : decode cX2_layOut 63 = .ok (.lmul, 1) := by decide +kernel
theorem dX2_layOut_64 : decode cX2_layOut 64 = .ok (.lstore 4, 2) := by decide +kernel
theorem dX2_layOut_66 : decode cX2_layOut 66 = .ok (.iconst 1, 1) := by decide +kernel
theorem dX2_layOut_67 : decode cX2_layOut 67 = .ok (.istore 6, 2) := by decide +kernel
theorem dX2_layOut_69 : decode cX2_layOut 69 = .ok (.iload 6, 2) := by decide +kernel
theorem dX2_layOut_71 : decode cX2_layOut 71 = .ok (.bipush 8, 2) := by decide +kernel
theorem dX2_layOut_73 : decode cX2_layOut 73 = .ok (.if_icmp .gt 29, 3) := by decide +kernel
theorem dX2_layOut_76 : decode cX2_layOut 76 = .ok (.aload_n 0, 1) := by decide +kernel
theorem dX2_layOut_77 : decode cX2_layOut 77 = .ok (.getfield 9, 3) := by decide +kernel
theorem dX2_layOut_80 : decode cX2_layOut 80 = .ok (.iload_n 3, 1) := by decide +kernel
theorem dX2_layOut_81 : decode cX2_layOut 81 = .ok (.iload 6, 2) := by decide +kernel
theorem dX2_layOut_83 : decode cX2_layOut 83 = .ok (.isub, 1) := by decide +kernel
theorem dX2_layOut_84 : decode cX2_layOut 84 = .ok (.lload 4, 2) := by decide +kernel
theorem dX2_layOut_86 : decode cX2_layOut 86 = .ok (.l2i, 1) := by decide +kernel
theorem dX2_layOut_87 : decode cX2_layOut 87 = .ok (.i2b, 1) := by decide +kernel
theorem dX2_layOut_88 : decode cX2_layOut 88 = .ok (.bastore, 1) := by decide +kernel
theorem dX2_layOut_89 : decode cX2_layOut 89 = .ok (.lload 4, 2) := by decide +kernel
theorem dX2_layOut_91 : decode cX2_layOut 91 = .ok (.bipush 8, 2) := by decide +kernel
theorem dX2_layOut_93 : decode cX2_layOut 93 = .ok (.lushr, 1) := by decide +kernel
theorem dX2_layOut_94 : decode cX2_layOut 94 = .ok (.lstore 4, 2) := by decide +kernel
theorem dX2_layOut_96 : decode cX2_layOut 96 = .ok (.iinc 6 1, 3) := by decide +kernel
theorem dX2_layOut_99 : decode cX2_layOut 99 = .ok (.goto (-30), 3) := by decide +kernel
theorem dX2_layOut_102 : decode cX2_layOut 102 = .ok (.iload_n 3, 1) := by decide +kernel
theorem dX2_layOut_103 : decode cX2_layOut 103 = .ok (.ireturn, 1) := by decide +kernel
set_option maxRecDepth 20000 in
theorem ggX2_fillSchedule_X2_wordAt : GoodIn wsX2_fillSchedule wsX2_wordAt := goodIn_ca (goodIn_r _ [6, 7, 14, 15, 16] (by decide +kernel) (by decide +kernel)) (goodIn_sub (fun _ h => List.mem_cons_of_mem _ (List.mem_append_right _ h)) (by decide +kernel))
set_option maxRecDepth 20000 in
theorem gX2_fillSchedule_X2_wordAt : GoodIn wsX2_fillSchedule (wsV RX2 36 RX2 yX2_wordAt wsX2_wordAt) := goodIn_app (goodIn_of _ (by decide +kernel)) ggX2_fillSchedule_X2_wordAt
set_option maxRecDepth 20000 in
theorem ggX2_fillSchedule_X2_spread : GoodIn wsX2_fillSchedule wsX2_spread := goodIn_r _ [10, 11, 12, 5, 13] (by decide +kernel) (by decide +kernel)
set_option maxRecDepth 20000 in
theorem gX2_fillSchedule_X2_spread : GoodIn wsX2_fillSchedule (va_wsS RX2 40 yX2_spread wsX2_spread) := goodIn_app (goodIn_of _ (by decide +kernel)) ggX2_fillSchedule_X2_spread
theorem dX2_fillSchedule_0 : decode cX2_fillSchedule 0 = .ok (.iconst 0, 1) := by decide +kernel
theorem dX2_fillSchedule_1 : decode cX2_fillSchedule 1 = .ok (.istore_n 2, 1) := by decide +kernel
theorem dX2_fillSchedule_2 : decode cX2_fillSchedule 2 = .ok (.iload_n 2, 1) := by decide +kernel
theorem dX2_fillSchedule_3 : decode cX2_fillSchedule 3 = .ok (.bipush 16, 2) := by decide +kernel
theorem dX2_fillSchedule_5 : decode cX2_fillSchedule 5 = .ok (.if_icmp .ge 24, 3) := by decide +kernel
theorem dX2_fillSchedule_8 : decode cX2_fillSchedule 8 = .ok (.aload_n 0, 1) := by decide +kernel
theorem dX2_fillSchedule_9 : decode cX2_fillSchedule 9 = .ok (.getfield 13, 3) := by decide +kernel
theorem dX2_fillSchedule_12 : decode cX2_fillSchedule 12 = .ok (.iload_n 2, 1) := by decide +kernel
theorem dX2_fillSchedule_13 : decode cX2_fillSchedule 13 = .ok (.aload_n 0, 1) := by decide +kernel
theorem dX2_fillSchedule_14 : decode cX2_fillSchedule 14 = .ok (.iload_n 1, 1) := by decide +kernel
theorem dX2_fillSchedule_15 : decode cX2_fillSchedule 15 = .ok (.iconst 4, 1) := by decide +kernel
theorem dX2_fillSchedule_16 : decode cX2_fillSchedule 16 = .ok (.iload_n 2, 1) := by decide +kernel
theorem dX2_fillSchedule_17 : decode cX2_fillSchedule 17 = .ok (.imul, 1) := by decide +kernel
theorem dX2_fillSchedule_18 : decode cX2_fillSchedule 18 = .ok (.iadd, 1) := by decide +kernel
theorem dX2_fillSchedule_19 : decode cX2_fillSchedule 19 = .ok (.invokevirtual 36, 3) := by decide +kernel
theorem dX2_fillSchedule_22 : decode cX2_fillSchedule 22 = .ok (.iastore, 1) := by decide +kernel
theorem dX2_fillSchedule_23 : decode cX2_fillSchedule 23 = .ok (.iinc 2 1, 3) := by decide +kernel
theorem dX2_fillSchedule_26 : decode cX2_fillSchedule 26 = .ok (.goto (-24), 3) := by decide +kernel
theorem dX2_fillSchedule_29 : decode cX2_fillSchedule 29 = .ok (.bipush 16, 2) := by decide +kernel
theorem dX2_fillSchedule_31 : decode cX2_fillSchedule 31 = .ok (.istore_n 2, 1) := by decide +kernel
theorem dX2_fillSchedule_32 : decode cX2_fillSchedule 32 = .ok (.iload_n 2, 1) := by decide +kernel
theorem dX2_fillSchedule_33 : decode cX2_fillSchedule 33 = .ok (.bipush 64, 2) := by decide +kernel
theorem dX2_fillSchedule_35 : decode cX2_fillSchedule 35 = .ok (.if_icmp .ge 70, 3) := by decide +kernel
theorem dX2_fillSchedule_38 : decode cX2_fillSchedule 38 = .ok (.aload_n 0, 1) := by decide +kernel
theorem dX2_fillSchedule_39 : decode cX2_fillSchedule 39 = .ok (.getfield 13, 3) := by decide +kernel
theorem dX2_fillSchedule_42 : decode cX2_fillSchedule 42 = .ok (.iload_n 2, 1) := by decide +kernel
theorem dX2_fillSchedule_43 : decode cX2_fillSchedule 43 = .ok (.aload_n 0, 1) := by decide +kernel
theorem dX2_fillSchedule_44 : decode cX2_fillSchedule 44 = .ok (.getfield 13, 3) := by decide +kernel
theorem dX2_fillSchedule_47 : decode cX2_fillSchedule 47 = .ok (.iload_n 2, 1) := by decide +kernel
theorem dX2_fillSchedule_48 : decode cX2_fillSchedule 48 = .ok (.bipush 16, 2) := by decide +kernel
theorem dX2_fillSchedule_50 : decode cX2_fillSchedule 50 = .ok (.isub, 1) := by decide +kernel
theorem dX2_fillSchedule_51 : decode cX2_fillSchedule 51 = .ok (.iaload, 1) := by decide +kernel
theorem dX2_fillSchedule_52 : decode cX2_fillSchedule 52 = .ok (.aload_n 0, 1) := by decide +kernel
theorem dX2_fillSchedule_53 : decode cX2_fillSchedule 53 = .ok (.getfield 13, 3) := by decide +kernel
theorem dX2_fillSchedule_56 : decode cX2_fillSchedule 56 = .ok (.iload_n 2, 1) := by decide +kernel
theorem dX2_fillSchedule_57 : decode cX2_fillSchedule 57 = .ok (.bipush 15, 2) := by decide +kernel
theorem dX2_fillSchedule_59 : decode cX2_fillSchedule 59 = .ok (.isub, 1) := by decide +kernel
theorem dX2_fillSchedule_60 : decode cX2_fillSchedule 60 = .ok (.iaload, 1) := by decide +kernel
theorem dX2_fillSchedule_61 : decode cX2_fillSchedule 61 = .ok (.bipush 7, 2) := by decide +kernel
theorem dX2_fillSchedule_63 : decode cX2_fillSchedule 63 = .ok (.bipush 18, 2) := by decide +kernel
theorem dX2_fillSchedule_65 : decode cX2_fillSchedule 65 = .ok (.iconst 3, 1) := by decide +kernel
theorem dX2_fillSchedule_66 : decode cX2_fillSchedule 66 = .ok (.invokestatic 40, 3) := by decide +kernel
theorem dX2_fillSchedule_69 : decode cX2_fillSchedule 69 = .ok (.iadd, 1) := by decide +kernel
theorem dX2_fillSchedule_70 : decode cX2_fillSchedule 70 = .ok (.aload_n 0, 1) := by decide +kernel
theorem dX2_fillSchedule_71 : decode cX2_fillSchedule 71 = .ok (.getfield 13, 3) := by decide +kernel
theorem dX2_fillSchedule_74 : decode cX2_fillSchedule 74 = .ok (.iload_n 2, 1) := by decide +kernel
theorem dX2_fillSchedule_75 : decode cX2_fillSchedule 75 = .ok (.bipush 7, 2) := by decide +kernel
theorem dX2_fillSchedule_77 : decode cX2_fillSchedule 77 = .ok (.isub, 1) := by decide +kernel
theorem dX2_fillSchedule_78 : decode cX2_fillSchedule 78 = .ok (.iaload, 1) := by decide +kernel
theorem dX2_fillSchedule_79 : decode cX2_fillSchedule 79 = .ok (.iadd, 1) := by decide +kernel
theorem dX2_fillSchedule_80 : decode cX2_fillSchedule 80 = .ok (.aload_n 0, 1) := by decide +kernel
theorem dX2_fillSchedule_81 : decode cX2_fillSchedule 81 = .ok (.getfield 13, 3) := by decide +kernel
theorem dX2_fillSchedule_84 : decode cX2_fillSchedule 84 = .ok (.iload_n 2, 1) := by decide +kernel
theorem dX2_fillSchedule_85 : decode cX2_fillSchedule 85 = .ok (.iconst 2, 1) := by decide +kernel
theorem dX2_fillSchedule_86 : decode cX2_fillSchedule 86 = .ok (.isub, 1) := by decide +kernel
theorem dX2_fillSchedule_87 : decode cX2_fillSchedule 87 = .ok (.iaload, 1) := by decide +kernel
theorem dX2_fillSchedule_88 : decode cX2_fillSchedule 88 = .ok (.bipush 17, 2) := by decide +kernel
theorem dX2_fillSchedule_90 : decode cX2_fillSchedule 90 = .ok (.bipush 19, 2) := by decide +kernel
theorem dX2_fillSchedule_92 : decode cX2_fillSchedule 92 = .ok (.bipush 10, 2) := by decide +kernel
theorem dX2_fillSchedule_94 : decode cX2_fillSchedule 94 = .ok (.invokestatic 40, 3) := by decide +kernel
theorem dX2_fillSchedule_97 : decode cX2_fillSchedule 97 = .ok (.iadd, 1) := by decide +kernel
theorem dX2_fillSchedule_98 : decode cX2_fillSchedule 98 = .ok (.iastore, 1) := by decide +kernel
theorem dX2_fillSchedule_99 : decode cX2_fillSchedule 99 = .ok (.iinc 2 1, 3) := by decide +kernel
theorem dX2_fillSchedule_102 : decode cX2_fillSchedule 102 = .ok (.goto (-70), 3) := by decide +kernel
theorem dX2_fillSchedule_105 : decode cX2_fillSchedule 105 = .ok (.return_, 1) := by decide +kernel
theorem dX2_wordAt_0 : decode cX2_wordAt 0 = .ok (.aload_n 0, 1) := by decide +kernel
theorem dX2_wordAt_1 : decode cX2_wordAt 1 = .ok (.getfield 9, 3) := by decide +kernel
theorem dX2_wordAt_4 : decode cX2_wordAt 4 = .ok (.iload_n 1, 1) := by decide +kernel
theorem dX2_wordAt_5 : decode cX2_wordAt 5 = .ok (.baload, 1) := by decide +kernel
theorem dX2_wordAt_6 : decode cX2_wordAt 6 = .ok (.sipush 255, 3) := by decide +kernel
theorem dX2_wordAt_9 : decode cX2_wordAt 9 = .ok (.iand, 1) := by decide +kernel
theorem dX2_wordAt_10 : decode cX2_wordAt 10 = .ok (.bipush 24, 2) := by decide +kernel
theorem dX2_wordAt_12 : decode cX2_wordAt 12 = .ok (.ishl, 1) := by decide +kernel
theorem dX2_wordAt_13 : decode cX2_wordAt 13 = .ok (.aload_n 0, 1) := by decide +kernel
theorem dX2_wordAt_14 : decode cX2_wordAt 14 = .ok (.getfield 9, 3) := by decide +kernel
theorem dX2_wordAt_17 : decode cX2_wordAt 17 = .ok (.iload_n 1, 1) := by decide +kernel
theorem dX2_wordAt_18 : decode cX2_wordAt 18 = .ok (.iconst 1, 1) := by decide +kernel
theorem dX2_wordAt_19 : decode cX2_wordAt 19 = .ok (.iadd, 1) := by decide +kernel
theorem dX2_wordAt_20 : decode cX2_wordAt 20 = .ok (.baload, 1) := by decide +kernel
theorem dX2_wordAt_21 : decode cX2_wordAt 21 = .ok (.sipush 255, 3) := by decide +kernel
theorem dX2_wordAt_24 : decode cX2_wordAt 24 = .ok (.iand, 1) := by decide +kernel
theorem dX2_wordAt_25 : decode cX2_wordAt 25 = .ok (.bipush 16, 2) := by decide +kernel
theorem dX2_wordAt_27 : decode cX2_wordAt 27 = .ok (.ishl, 1) := by decide +kernel
theorem dX2_wordAt_28 : decode cX2_wordAt 28 = .ok (.ior, 1) := by decide +kernel
theorem dX2_wordAt_29 : decode cX2_wordAt 29 = .ok (.aload_n 0, 1) := by decide +kernel
theorem dX2_wordAt_30 : decode cX2_wordAt 30 = .ok (.getfield 9, 3) := by decide +kernel
theorem dX2_wordAt_33 : decode cX2_wordAt 33 = .ok (.iload_n 1, 1) := by decide +kernel
theorem dX2_wordAt_34 : decode cX2_wordAt 34 = .ok (.iconst 2, 1) := by decide +kernel
theorem dX2_wordAt_35 : decode cX2_wordAt 35 = .ok (.iadd, 1) := by decide +kernel
theorem dX2_wordAt_36 : decode cX2_wordAt 36 = .ok (.baload, 1) := by decide +kernel
theorem dX2_wordAt_37 : decode cX2_wordAt 37 = .ok (.sipush 255, 3) := by decide +kernel
theorem dX2_wordAt_40 : decode cX2_wordAt 40 = .ok (.iand, 1) := by decide +kernel
theorem dX2_wordAt_41 : decode cX2_wordAt 41 = .ok (.bipush 8, 2) := by decide +kernel
theorem dX2_wordAt_43 : decode cX2_wordAt 43 = .ok (.ishl, 1) := by decide +kernel
theorem dX2_wordAt_44 : decode cX2_wordAt 44 = .ok (.ior, 1) := by decide +kernel
theorem dX2_wordAt_45 : decode cX2_wordAt 45 = .ok (.aload_n 0, 1) := by decide +kernel
theorem dX2_wordAt_46 : decode cX2_wordAt 46 = .ok (.getfield 9, 3) := by decide +kernel
theorem dX2_wordAt_49 : decode cX2_wordAt 49 = .ok (.iload_n 1, 1) := by decide +kernel
theorem dX2_wordAt_50 : decode cX2_wordAt 50 = .ok (.iconst 3, 1) := by decide +kernel
theorem dX2_wordAt_51 : decode cX2_wordAt 51 = .ok (.iadd, 1) := by decide +kernel
theorem dX2_wordAt_52 : decode cX2_wordAt 52 = .ok (.baload, 1) := by decide +kernel
theorem dX2_wordAt_53 : decode cX2_wordAt 53 = .ok (.sipush 255, 3) := by decide +kernel
theorem dX2_wordAt_56 : decode cX2_wordAt 56 = .ok (.iand, 1) := by decide +kernel
theorem dX2_wordAt_57 : decode cX2_wordAt 57 = .ok (.ior, 1) := by decide +kernel
theorem dX2_wordAt_58 : decode cX2_wordAt 58 = .ok (.ireturn, 1) := by decide +kernel
set_option maxRecDepth 20000 in
theorem ggX2_mix_X2_turns : GoodIn wsX2_mix wsX2_turns := goodIn_r _ [7, 8, 9, 6, 10] (by decide +kernel) (by decide +kernel)
set_option maxRecDepth 20000 in
theorem gX2_mix_X2_turns : GoodIn wsX2_mix (va_wsS RX2 44 yX2_turns wsX2_turns) := goodIn_app (goodIn_of _ (by decide +kernel)) ggX2_mix_X2_turns
theorem dX2_mix_0 : decode cX2_mix 0 = .ok (.aload_n 0, 1) := by decide +kernel
theorem dX2_mix_1 : decode cX2_mix 1 = .ok (.getfield 17, 3) := by decide +kernel
theorem dX2_mix_4 : decode cX2_mix 4 = .ok (.iconst 0, 1) := by decide +kernel
theorem dX2_mix_5 : decode cX2_mix 5 = .ok (.iaload, 1) := by decide +kernel
theorem dX2_mix_6 : decode cX2_mix 6 = .ok (.istore_n 1, 1) := by decide +kernel
theorem dX2_mix_7 : decode cX2_mix 7 = .ok (.aload_n 0, 1) := by decide +kernel
theorem dX2_mix_8 : decode cX2_mix 8 = .ok (.getfield 17, 3) := by decide +kernel
theorem dX2_mix_11 : decode cX2_mix 11 = .ok (.iconst 1, 1) := by decide +kernel
theorem dX2_mix_12 : decode cX2_mix 12 = .ok (.iaload, 1) := by decide +kernel
theorem dX2_mix_13 : decode cX2_mix 13 = .ok (.istore_n 2, 1) := by decide +kernel
theorem dX2_mix_14 : decode cX2_mix 14 = .ok (.aload_n 0, 1) := by decide +kernel
theorem dX2_mix_15 : decode cX2_mix 15 = .ok (.getfield 17, 3) := by decide +kernel
theorem dX2_mix_18 : decode cX2_mix 18 = .ok (.iconst 2, 1) := by decide +kernel
theorem dX2_mix_19 : decode cX2_mix 19 = .ok (.iaload, 1) := by decide +kernel
theorem dX2_mix_20 : decode cX2_mix 20 = .ok (.istore_n 3, 1) := by decide +kernel
theorem dX2_mix_21 : decode cX2_mix 21 = .ok (.aload_n 0, 1) := by decide +kernel
theorem dX2_mix_22 : decode cX2_mix 22 = .ok (.getfield 17, 3) := by decide +kernel
theorem dX2_mix_25 : decode cX2_mix 25 = .ok (.iconst 3, 1) := by decide +kernel
theorem dX2_mix_26 : decode cX2_mix 26 = .ok (.iaload, 1) := by decide +kernel
theorem dX2_mix_27 : decode cX2_mix 27 = .ok (.istore 4, 2) := by decide +kernel
theorem dX2_mix_29 : decode cX2_mix 29 = .ok (.aload_n 0, 1) := by decide +kernel
theorem dX2_mix_30 : decode cX2_mix 30 = .ok (.getfield 17, 3) := by decide +kernel
theorem dX2_mix_33 : decode cX2_mix 33 = .ok (.iconst 4, 1) := by decide +kernel
theorem dX2_mix_34 : decode cX2_mix 34 = .ok (.iaload, 1) := by decide +kernel
theorem dX2_mix_35 : decode cX2_mix 35 = .ok (.istore 5, 2) := by decide +kernel
theorem dX2_mix_37 : decode cX2_mix 37 = .ok (.aload_n 0, 1) := by decide +kernel
theorem dX2_mix_38 : decode cX2_mix 38 = .ok (.getfield 17, 3) := by decide +kernel
theorem dX2_mix_41 : decode cX2_mix 41 = .ok (.iconst 5, 1) := by decide +kernel
theorem dX2_mix_42 : decode cX2_mix 42 = .ok (.iaload, 1) := by decide +kernel
theorem dX2_mix_43 : decode cX2_mix 43 = .ok (.istore 6, 2) := by decide +kernel
theorem dX2_mix_45 : decode cX2_mix 45 = .ok (.aload_n 0, 1) := by decide +kernel
theorem dX2_mix_46 : decode cX2_mix 46 = .ok (.getfield 17, 3) := by decide +kernel
theorem dX2_mix_49 : decode cX2_mix 49 = .ok (.bipush 6, 2) := by decide +kernel
theorem dX2_mix_51 : decode cX2_mix 51 = .ok (.iaload, 1) := by decide +kernel
theorem dX2_mix_52 : decode cX2_mix 52 = .ok (.istore 7, 2) := by decide +kernel
theorem dX2_mix_54 : decode cX2_mix 54 = .ok (.aload_n 0, 1) := by decide +kernel
theorem dX2_mix_55 : decode cX2_mix 55 = .ok (.getfield 17, 3) := by decide +kernel
theorem dX2_mix_58 : decode cX2_mix 58 = .ok (.bipush 7, 2) := by decide +kernel
theorem dX2_mix_60 : decode cX2_mix 60 = .ok (.iaload, 1) := by decide +kernel
theorem dX2_mix_61 : decode cX2_mix 61 = .ok (.istore 8, 2) := by decide +kernel
theorem dX2_mix_63 : decode cX2_mix 63 = .ok (.iconst 0, 1) := by decide +kernel
theorem dX2_mix_64 : decode cX2_mix 64 = .ok (.istore 9, 2) := by decide +kernel
theorem dX2_mix_66 : decode cX2_mix 66 = .ok (.iload 9, 2) := by decide +kernel
theorem dX2_mix_68 : decode cX2_mix 68 = .ok (.bipush 64, 2) := by decide +kernel
theorem dX2_mix_70 : decode cX2_mix 70 = .ok (.if_icmp .ge 109, 3) := by decide +kernel
theorem dX2_mix_73 : decode cX2_mix 73 = .ok (.iload 8, 2) := by decide +kernel
theorem dX2_mix_75 : decode cX2_mix 75 = .ok (.iload 5, 2) := by decide +kernel
theorem dX2_mix_77 : decode cX2_mix 77 = .ok (.bipush 6, 2) := by decide +kernel
theorem dX2_mix_79 : decode cX2_mix 79 = .ok (.bipush 11, 2) := by decide +kernel
theorem dX2_mix_81 : decode cX2_mix 81 = .ok (.bipush 25, 2) := by decide +kernel
theorem dX2_mix_83 : decode cX2_mix 83 = .ok (.invokestatic 44, 3) := by decide +kernel
theorem dX2_mix_86 : decode cX2_mix 86 = .ok (.iadd, 1) := by decide +kernel
theorem dX2_mix_87 : decode cX2_mix 87 = .ok (.iload 5, 2) := by decide +kernel
theorem dX2_mix_89 : decode cX2_mix 89 = .ok (.iload 6, 2) := by decide +kernel
theorem dX2_mix_91 : decode cX2_mix 91 = .ok (.iand, 1) := by decide +kernel
theorem dX2_mix_92 : decode cX2_mix 92 = .ok (.iload 5, 2) := by decide +kernel
theorem dX2_mix_94 : decode cX2_mix 94 = .ok (.iconst (-1), 1) := by decide +kernel
theorem dX2_mix_95 : decode cX2_mix 95 = .ok (.ixor, 1) := by decide +kernel
theorem dX2_mix_96 : decode cX2_mix 96 = .ok (.iload 7, 2) := by decide +kernel
theorem dX2_mix_98 : decode cX2_mix 98 = .ok (.iand, 1) := by decide +kernel
theorem dX2_mix_99 : decode cX2_mix 99 = .ok (.ixor, 1) := by decide +kernel
theorem dX2_mix_100 : decode cX2_mix 100 = .ok (.iadd, 1) := by decide +kernel
theorem dX2_mix_101 : decode cX2_mix 101 = .ok (.getstatic 47, 3) := by decide +kernel
theorem dX2_mix_104 : decode cX2_mix 104 = .ok (.iload 9, 2) := by decide +kernel
theorem dX2_mix_106 : decode cX2_mix 106 = .ok (.iaload, 1) := by decide +kernel
theorem dX2_mix_107 : decode cX2_mix 107 = .ok (.iadd, 1) := by decide +kernel
theorem dX2_mix_108 : decode cX2_mix 108 = .ok (.aload_n 0, 1) := by decide +kernel
theorem dX2_mix_109 : decode cX2_mix 109 = .ok (.getfield 13, 3) := by decide +kernel
theorem dX2_mix_112 : decode cX2_mix 112 = .ok (.iload 9, 2) := by decide +kernel
theorem dX2_mix_114 : decode cX2_mix 114 = .ok (.iaload, 1) := by decide +kernel
theorem dX2_mix_115 : decode cX2_mix 115 = .ok (.iadd, 1) := by decide +kernel
theorem dX2_mix_116 : decode cX2_mix 116 = .ok (.istore 10, 2) := by decide +kernel
theorem dX2_mix_118 : decode cX2_mix 118 = .ok (.iload_n 1, 1) := by decide +kernel
theorem dX2_mix_119 : decode cX2_mix 119 = .ok (.iconst 2, 1) := by decide +kernel
theorem dX2_mix_120 : decode cX2_mix 120 = .ok (.bipush 13, 2) := by decide +kernel
theorem dX2_mix_122 : decode cX2_mix 122 = .ok (.bipush 22, 2) := by decide +kernel
theorem dX2_mix_124 : decode cX2_mix 124 = .ok (.invokestatic 44, 3) := by decide +kernel
theorem dX2_mix_127 : decode cX2_mix 127 = .ok (.iload_n 1, 1) := by decide +kernel
theorem dX2_mix_128 : decode cX2_mix 128 = .ok (.iload_n 2, 1) := by decide +kernel
theorem dX2_mix_129 : decode cX2_mix 129 = .ok (.iand, 1) := by decide +kernel
theorem dX2_mix_130 : decode cX2_mix 130 = .ok (.iload_n 1, 1) := by decide +kernel
theorem dX2_mix_131 : decode cX2_mix 131 = .ok (.iload_n 3, 1) := by decide +kernel
theorem dX2_mix_132 : decode cX2_mix 132 = .ok (.iand, 1) := by decide +kernel
theorem dX2_mix_133 : decode cX2_mix 133 = .ok (.ixor, 1) := by decide +kernel
theorem dX2_mix_134 : decode cX2_mix 134 = .ok (.iload_n 2, 1) := by decide +kernel
theorem dX2_mix_135 : decode cX2_mix 135 = .ok (.iload_n 3, 1) := by decide +kernel
theorem dX2_mix_136 : decode cX2_mix 136 = .ok (.iand, 1) := by decide +kernel
theorem dX2_mix_137 : decode cX2_mix 137 = .ok (.ixor, 1) := by decide +kernel
theorem dX2_mix_138 : decode cX2_mix 138 = .ok (.iadd, 1) := by decide +kernel
theorem dX2_mix_139 : decode cX2_mix 139 = .ok (.istore 11, 2) := by decide +kernel
theorem dX2_mix_141 : decode cX2_mix 141 = .ok (.iload 7, 2) := by decide +kernel
theorem dX2_mix_143 : decode cX2_mix 143 = .ok (.istore 8, 2) := by decide +kernel
theorem dX2_mix_145 : decode cX2_mix 145 = .ok (.iload 6, 2) := by decide +kernel
theorem dX2_mix_147 : decode cX2_mix 147 = .ok (.istore 7, 2) := by decide +kernel
theorem dX2_mix_149 : decode cX2_mix 149 = .ok (.iload 5, 2) := by decide +kernel
theorem dX2_mix_151 : decode cX2_mix 151 = .ok (.istore 6, 2) := by decide +kernel
theorem dX2_mix_153 : decode cX2_mix 153 = .ok (.iload 4, 2) := by decide +kernel
theorem dX2_mix_155 : decode cX2_mix 155 = .ok (.iload 10, 2) := by decide +kernel
theorem dX2_mix_157 : decode cX2_mix 157 = .ok (.iadd, 1) := by decide +kernel
theorem dX2_mix_158 : decode cX2_mix 158 = .ok (.istore 5, 2) := by decide +kernel
theorem dX2_mix_160 : decode cX2_mix 160 = .ok (.iload_n 3, 1) := by decide +kernel
theorem dX2_mix_161 : decode cX2_mix 161 = .ok (.istore 4, 2) := by decide +kernel
theorem dX2_mix_163 : decode cX2_mix 163 = .ok (.iload_n 2, 1) := by decide +kernel
theorem dX2_mix_164 : decode cX2_mix 164 = .ok (.istore_n 3, 1) := by decide +kernel
theorem dX2_mix_165 : decode cX2_mix 165 = .ok (.iload_n 1, 1) := by decide +kernel
theorem dX2_mix_166 : decode cX2_mix 166 = .ok (.istore_n 2, 1) := by decide +kernel
theorem dX2_mix_167 : decode cX2_mix 167 = .ok (.iload 10, 2) := by decide +kernel
theorem dX2_mix_169 : decode cX2_mix 169 = .ok (.iload 11, 2) := by decide +kernel
theorem dX2_mix_171 : decode cX2_mix 171 = .ok (.iadd, 1) := by decide +kernel
theorem dX2_mix_172 : decode cX2_mix 172 = .ok (.istore_n 1, 1) := by decide +kernel
theorem dX2_mix_173 : decode cX2_mix 173 = .ok (.iinc 9 1, 3) := by decide +kernel
theorem dX2_mix_176 : decode cX2_mix 176 = .ok (.goto (-110), 3) := by decide +kernel
theorem dX2_mix_179 : decode cX2_mix 179 = .ok (.aload_n 0, 1) := by decide +kernel
theorem dX2_mix_180 : decode cX2_mix 180 = .ok (.getfield 17, 3) := by decide +kernel
theorem dX2_mix_183 : decode cX2_mix 183 = .ok (.iconst 0, 1) := by decide +kernel
theorem dX2_mix_184 : decode cX2_mix 184 = .ok (.dup2, 1) := by decide +kernel
theorem dX2_mix_185 : decode cX2_mix 185 = .ok (.iaload, 1) := by decide +kernel
theorem dX2_mix_186 : decode cX2_mix 186 = .ok (.iload_n 1, 1) := by decide +kernel
theorem dX2_mix_187 : decode cX2_mix 187 = .ok (.iadd, 1) := by decide +kernel
theorem dX2_mix_188 : decode cX2_mix 188 = .ok (.iastore, 1) := by decide +kernel
theorem dX2_mix_189 : decode cX2_mix 189 = .ok (.aload_n 0, 1) := by decide +kernel
theorem dX2_mix_190 : decode cX2_mix 190 = .ok (.getfield 17, 3) := by decide +kernel
theorem dX2_mix_193 : decode cX2_mix 193 = .ok (.iconst 1, 1) := by decide +kernel
theorem dX2_mix_194 : decode cX2_mix 194 = .ok (.dup2, 1) := by decide +kernel
theorem dX2_mix_195 : decode cX2_mix 195 = .ok (.iaload, 1) := by decide +kernel
theorem dX2_mix_196 : decode cX2_mix 196 = .ok (.iload_n 2, 1) := by decide +kernel
theorem dX2_mix_197 : decode cX2_mix 197 = .ok (.iadd, 1) := by decide +kernel
theorem dX2_mix_198 : decode cX2_mix 198 = .ok (.iastore, 1) := by decide +kernel
theorem dX2_mix_199 : decode cX2_mix 199 = .ok (.aload_n 0, 1) := by decide +kernel
theorem dX2_mix_200 : decode cX2_mix 200 = .ok (.getfield 17, 3) := by decide +kernel
theorem dX2_mix_203 : decode cX2_mix 203 = .ok (.iconst 2, 1) := by decide +kernel
theorem dX2_mix_204 : decode cX2_mix 204 = .ok (.dup2, 1) := by decide +kernel
theorem dX2_mix_205 : decode cX2_mix 205 = .ok (.iaload, 1) := by decide +kernel
theorem dX2_mix_206 : decode cX2_mix 206 = .ok (.iload_n 3, 1) := by decide +kernel
theorem dX2_mix_207 : decode cX2_mix 207 = .ok (.iadd, 1) := by decide +kernel
theorem dX2_mix_208 : decode cX2_mix 208 = .ok (.iastore, 1) := by decide +kernel
theorem dX2_mix_209 : decode cX2_mix 209 = .ok (.aload_n 0, 1) := by decide +kernel
theorem dX2_mix_210 : decode cX2_mix 210 = .ok (.getfield 17, 3) := by decide +kernel
theorem dX2_mix_213 : decode cX2_mix 213 = .ok (.iconst 3, 1) := by decide +kernel
theorem dX2_mix_214 : decode cX2_mix 214 = .ok (.dup2, 1) := by decide +kernel
theorem dX2_mix_215 : decode cX2_mix 215 = .ok (.iaload, 1) := by decide +kernel
theorem dX2_mix_216 : decode cX2_mix 216 = .ok (.iload 4, 2) := by decide +kernel
theorem dX2_mix_218 : decode cX2_mix 218 = .ok (.iadd, 1) := by decide +kernel
theorem dX2_mix_219 : decode cX2_mix 219 = .ok (.iastore, 1) := by decide +kernel
theorem dX2_mix_220 : decode cX2_mix 220 = .ok (.aload_n 0, 1) := by decide +kernel
theorem dX2_mix_221 : decode cX2_mix 221 = .ok (.getfield 17, 3) := by decide +kernel
theorem dX2_mix_224 : decode cX2_mix 224 = .ok (.iconst 4, 1) := by decide +kernel
theorem dX2_mix_225 : decode cX2_mix 225 = .ok (.dup2, 1) := by decide +kernel
theorem dX2_mix_226 : decode cX2_mix 226 = .ok (.iaload, 1) := by decide +kernel
theorem dX2_mix_227 : decode cX2_mix 227 = .ok (.iload 5, 2) := by decide +kernel
theorem dX2_mix_229 : decode cX2_mix 229 = .ok (.iadd, 1) := by decide +kernel
theorem dX2_mix_230 : decode cX2_mix 230 = .ok (.iastore, 1) := by decide +kernel
theorem dX2_mix_231 : decode cX2_mix 231 = .ok (.aload_n 0, 1) := by decide +kernel
theorem dX2_mix_232 : decode cX2_mix 232 = .ok (.getfield 17, 3) := by decide +kernel
theorem dX2_mix_235 : decode cX2_mix 235 = .ok (.iconst 5, 1) := by decide +kernel
theorem dX2_mix_236 : decode cX2_mix 236 = .ok (.dup2, 1) := by decide +kernel
theorem dX2_mix_237 : decode cX2_mix 237 = .ok (.iaload, 1) := by decide +kernel
theorem dX2_mix_238 : decode cX2_mix 238 = .ok (.iload 6, 2) := by decide +kernel
theorem dX2_mix_240 : decode cX2_mix 240 = .ok (.iadd, 1) := by decide +kernel
theorem dX2_mix_241 : decode cX2_mix 241 = .ok (.iastore, 1) := by decide +kernel
theorem dX2_mix_242 : decode cX2_mix 242 = .ok (.aload_n 0, 1) := by decide +kernel
theorem dX2_mix_243 : decode cX2_mix 243 = .ok (.getfield 17, 3) := by decide +kernel
theorem dX2_mix_246 : decode cX2_mix 246 = .ok (.bipush 6, 2) := by decide +kernel
theorem dX2_mix_248 : decode cX2_mix 248 = .ok (.dup2, 1) := by decide +kernel
theorem dX2_mix_249 : decode cX2_mix 249 = .ok (.iaload, 1) := by decide +kernel
theorem dX2_mix_250 : decode cX2_mix 250 = .ok (.iload 7, 2) := by decide +kernel
theorem dX2_mix_252 : decode cX2_mix 252 = .ok (.iadd, 1) := by decide +kernel
