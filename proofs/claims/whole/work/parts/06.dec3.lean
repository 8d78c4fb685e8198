theorem dX4_rollback_0 : decode cX4_rollback 0 = .ok (.aload_n 0, 1) := by decide +kernel
theorem dX4_rollback_1 : decode cX4_rollback 1 = .ok (.invokevirtual 149, 3) := by decide +kernel
theorem dX4_rollback_4 : decode cX4_rollback 4 = .ok (.ifCond .eq 10, 3) := by decide +kernel
theorem dX4_rollback_7 : decode cX4_rollback 7 = .ok (.aload_n 0, 1) := by decide +kernel
theorem dX4_rollback_8 : decode cX4_rollback 8 = .ok (.invokevirtual 161, 3) := by decide +kernel
theorem dX4_rollback_11 : decode cX4_rollback 11 = .ok (.ifCond .ne 5, 3) := by decide +kernel
theorem dX4_rollback_14 : decode cX4_rollback 14 = .ok (.iconst 0, 1) := by decide +kernel
theorem dX4_rollback_15 : decode cX4_rollback 15 = .ok (.ireturn, 1) := by decide +kernel
theorem dX4_rollback_16 : decode cX4_rollback 16 = .ok (.iconst 0, 1) := by decide +kernel
theorem dX4_rollback_17 : decode cX4_rollback 17 = .ok (.istore_n 1, 1) := by decide +kernel
theorem dX4_rollback_18 : decode cX4_rollback 18 = .ok (.iload_n 1, 1) := by decide +kernel
theorem dX4_rollback_19 : decode cX4_rollback 19 = .ok (.aload_n 0, 1) := by decide +kernel
theorem dX4_rollback_20 : decode cX4_rollback 20 = .ok (.getfield 33, 3) := by decide +kernel
theorem dX4_rollback_23 : decode cX4_rollback 23 = .ok (.if_icmp .ge 32, 3) := by decide +kernel
theorem dX4_rollback_26 : decode cX4_rollback 26 = .ok (.aload_n 0, 1) := by decide +kernel
theorem dX4_rollback_27 : decode cX4_rollback 27 = .ok (.getfield 11, 3) := by decide +kernel
theorem dX4_rollback_30 : decode cX4_rollback 30 = .ok (.iload_n 1, 1) := by decide +kernel
theorem dX4_rollback_31 : decode cX4_rollback 31 = .ok (.aaload, 1) := by decide +kernel
theorem dX4_rollback_32 : decode cX4_rollback 32 = .ok (.astore_n 2, 1) := by decide +kernel
theorem dX4_rollback_33 : decode cX4_rollback 33 = .ok (.aload_n 2, 1) := by decide +kernel
theorem dX4_rollback_34 : decode cX4_rollback 34 = .ok (.invokevirtual 152, 3) := by decide +kernel
theorem dX4_rollback_37 : decode cX4_rollback 37 = .ok (.ifCond .eq 12, 3) := by decide +kernel
theorem dX4_rollback_40 : decode cX4_rollback 40 = .ok (.aload_n 2, 1) := by decide +kernel
theorem dX4_rollback_41 : decode cX4_rollback 41 = .ok (.invokevirtual 164, 3) := by decide +kernel
theorem dX4_rollback_44 : decode cX4_rollback 44 = .ok (.aload_n 2, 1) := by decide +kernel
theorem dX4_rollback_45 : decode cX4_rollback 45 = .ok (.iconst 0, 1) := by decide +kernel
theorem dX4_rollback_46 : decode cX4_rollback 46 = .ok (.putfield 158, 3) := by decide +kernel
theorem dX4_rollback_49 : decode cX4_rollback 49 = .ok (.iinc 1 1, 3) := by decide +kernel
theorem dX4_rollback_52 : decode cX4_rollback 52 = .ok (.goto (-34), 3) := by decide +kernel
theorem dX4_rollback_55 : decode cX4_rollback 55 = .ok (.iconst 1, 1) := by decide +kernel
theorem dX4_rollback_56 : decode cX4_rollback 56 = .ok (.ireturn, 1) := by decide +kernel
set_option maxRecDepth 20000 in
theorem ggX4_silent_X4_find : GoodIn wsX4_silent wsX4_find := goodIn_r _ [6, 7, 8, 19, 20, 21, 22, 23, 24, 25, 26] (by decide +kernel) (by decide +kernel)
set_option maxRecDepth 20000 in
theorem gX4_silent_X4_find : GoodIn wsX4_silent (wsV RX4 43 RX4 yX4_find wsX4_find) := goodIn_app (goodIn_of _ (by decide +kernel)) ggX4_silent_X4_find
theorem dX4_silent_0 : decode cX4_silent 0 = .ok (.aload_n 0, 1) := by decide +kernel
theorem dX4_silent_1 : decode cX4_silent 1 = .ok (.iload_n 1, 1) := by decide +kernel
theorem dX4_silent_2 : decode cX4_silent 2 = .ok (.invokevirtual 43, 3) := by decide +kernel
theorem dX4_silent_5 : decode cX4_silent 5 = .ok (.astore_n 3, 1) := by decide +kernel
theorem dX4_silent_6 : decode cX4_silent 6 = .ok (.aload_n 3, 1) := by decide +kernel
theorem dX4_silent_7 : decode cX4_silent 7 = .ok (.ifnonnull 5, 3) := by decide +kernel
theorem dX4_silent_10 : decode cX4_silent 10 = .ok (.iconst (-1), 1) := by decide +kernel
theorem dX4_silent_11 : decode cX4_silent 11 = .ok (.ireturn, 1) := by decide +kernel
theorem dX4_silent_12 : decode cX4_silent 12 = .ok (.aload_n 3, 1) := by decide +kernel
theorem dX4_silent_13 : decode cX4_silent 13 = .ok (.getfield 167, 3) := by decide +kernel
theorem dX4_silent_16 : decode cX4_silent 16 = .ok (.iload_n 2, 1) := by decide +kernel
theorem dX4_silent_17 : decode cX4_silent 17 = .ok (.if_icmp .eq 7, 3) := by decide +kernel
theorem dX4_silent_20 : decode cX4_silent 20 = .ok (.iconst 1, 1) := by decide +kernel
theorem dX4_silent_21 : decode cX4_silent 21 = .ok (.goto 4, 3) := by decide +kernel
theorem dX4_silent_24 : decode cX4_silent 24 = .ok (.iconst 0, 1) := by decide +kernel
theorem dX4_silent_25 : decode cX4_silent 25 = .ok (.istore 4, 2) := by decide +kernel
theorem dX4_silent_27 : decode cX4_silent 27 = .ok (.aload_n 3, 1) := by decide +kernel
theorem dX4_silent_28 : decode cX4_silent 28 = .ok (.iload_n 2, 1) := by decide +kernel
theorem dX4_silent_29 : decode cX4_silent 29 = .ok (.putfield 167, 3) := by decide +kernel
theorem dX4_silent_32 : decode cX4_silent 32 = .ok (.iload 4, 2) := by decide +kernel
theorem dX4_silent_34 : decode cX4_silent 34 = .ok (.ifCond .eq 7, 3) := by decide +kernel
theorem dX4_silent_37 : decode cX4_silent 37 = .ok (.iconst 1, 1) := by decide +kernel
theorem dX4_silent_38 : decode cX4_silent 38 = .ok (.goto 4, 3) := by decide +kernel
theorem dX4_silent_41 : decode cX4_silent 41 = .ok (.iconst 0, 1) := by decide +kernel
theorem dX4_silent_42 : decode cX4_silent 42 = .ok (.ireturn, 1) := by decide +kernel
set_option maxRecDepth 20000 in
theorem ggX4_counter_X4_find : GoodIn wsX4_counter wsX4_find := goodIn_r _ [6, 7, 8, 19, 20, 21, 22, 23, 24, 25, 26] (by decide +kernel) (by decide +kernel)
set_option maxRecDepth 20000 in
theorem gX4_counter_X4_find : GoodIn wsX4_counter (wsV RX4 43 RX4 yX4_find wsX4_find) := goodIn_app (goodIn_of _ (by decide +kernel)) ggX4_counter_X4_find
theorem dX4_counter_0 : decode cX4_counter 0 = .ok (.aload_n 0, 1) := by decide +kernel
theorem dX4_counter_1 : decode cX4_counter 1 = .ok (.iload_n 1, 1) := by decide +kernel
theorem dX4_counter_2 : decode cX4_counter 2 = .ok (.invokevirtual 43, 3) := by decide +kernel
theorem dX4_counter_5 : decode cX4_counter 5 = .ok (.astore_n 2, 1) := by decide +kernel
theorem dX4_counter_6 : decode cX4_counter 6 = .ok (.aload_n 2, 1) := by decide +kernel
theorem dX4_counter_7 : decode cX4_counter 7 = .ok (.ifnonnull 5, 3) := by decide +kernel
theorem dX4_counter_10 : decode cX4_counter 10 = .ok (.iconst (-1), 1) := by decide +kernel
theorem dX4_counter_11 : decode cX4_counter 11 = .ok (.ireturn, 1) := by decide +kernel
theorem dX4_counter_12 : decode cX4_counter 12 = .ok (.aload_n 2, 1) := by decide +kernel
theorem dX4_counter_13 : decode cX4_counter 13 = .ok (.getfield 170, 3) := by decide +kernel
theorem dX4_counter_16 : decode cX4_counter 16 = .ok (.ireturn, 1) := by decide +kernel
theorem dX4_find_0 : decode cX4_find 0 = .ok (.iload_n 1, 1) := by decide +kernel
theorem dX4_find_1 : decode cX4_find 1 = .ok (.iconst 1, 1) := by decide +kernel
theorem dX4_find_2 : decode cX4_find 2 = .ok (.if_icmp .lt 11, 3) := by decide +kernel
theorem dX4_find_5 : decode cX4_find 5 = .ok (.iload_n 1, 1) := by decide +kernel
theorem dX4_find_6 : decode cX4_find 6 = .ok (.aload_n 0, 1) := by decide +kernel
theorem dX4_find_7 : decode cX4_find 7 = .ok (.getfield 33, 3) := by decide +kernel
theorem dX4_find_10 : decode cX4_find 10 = .ok (.if_icmp .le 5, 3) := by decide +kernel
theorem dX4_find_13 : decode cX4_find 13 = .ok (.aconst_null, 1) := by decide +kernel
theorem dX4_find_14 : decode cX4_find 14 = .ok (.areturn, 1) := by decide +kernel
theorem dX4_find_15 : decode cX4_find 15 = .ok (.aload_n 0, 1) := by decide +kernel
theorem dX4_find_16 : decode cX4_find 16 = .ok (.getfield 11, 3) := by decide +kernel
theorem dX4_find_19 : decode cX4_find 19 = .ok (.iload_n 1, 1) := by decide +kernel
theorem dX4_find_20 : decode cX4_find 20 = .ok (.iconst 1, 1) := by decide +kernel
theorem dX4_find_21 : decode cX4_find 21 = .ok (.isub, 1) := by decide +kernel
theorem dX4_find_22 : decode cX4_find 22 = .ok (.aaload, 1) := by decide +kernel
theorem dX4_find_23 : decode cX4_find 23 = .ok (.areturn, 1) := by decide +kernel
theorem dX4_isPackage_0 : decode cX4_isPackage 0 = .ok (.iload_n 1, 1) := by decide +kernel
theorem dX4_isPackage_1 : decode cX4_isPackage 1 = .ok (.iconst 1, 1) := by decide +kernel
theorem dX4_isPackage_2 : decode cX4_isPackage 2 = .ok (.if_icmp .lt 15, 3) := by decide +kernel
theorem dX4_isPackage_5 : decode cX4_isPackage 5 = .ok (.iload_n 1, 1) := by decide +kernel
theorem dX4_isPackage_6 : decode cX4_isPackage 6 = .ok (.aload_n 0, 1) := by decide +kernel
theorem dX4_isPackage_7 : decode cX4_isPackage 7 = .ok (.getfield 51, 3) := by decide +kernel
theorem dX4_isPackage_10 : decode cX4_isPackage 10 = .ok (.if_icmp .gt 7, 3) := by decide +kernel
theorem dX4_isPackage_13 : decode cX4_isPackage 13 = .ok (.iconst 1, 1) := by decide +kernel
theorem dX4_isPackage_14 : decode cX4_isPackage 14 = .ok (.goto 4, 3) := by decide +kernel
theorem dX4_isPackage_17 : decode cX4_isPackage 17 = .ok (.iconst 0, 1) := by decide +kernel
theorem dX4_isPackage_18 : decode cX4_isPackage 18 = .ok (.ireturn, 1) := by decide +kernel
theorem dX4_findOpen_0 : decode cX4_findOpen 0 = .ok (.iconst 0, 1) := by decide +kernel
theorem dX4_findOpen_1 : decode cX4_findOpen 1 = .ok (.istore_n 2, 1) := by decide +kernel
theorem dX4_findOpen_2 : decode cX4_findOpen 2 = .ok (.iload_n 2, 1) := by decide +kernel
theorem dX4_findOpen_3 : decode cX4_findOpen 3 = .ok (.aload_n 0, 1) := by decide +kernel
theorem dX4_findOpen_4 : decode cX4_findOpen 4 = .ok (.getfield 33, 3) := by decide +kernel
theorem dX4_findOpen_7 : decode cX4_findOpen 7 = .ok (.if_icmp .ge 36, 3) := by decide +kernel
theorem dX4_findOpen_10 : decode cX4_findOpen 10 = .ok (.aload_n 0, 1) := by decide +kernel
theorem dX4_findOpen_11 : decode cX4_findOpen 11 = .ok (.getfield 11, 3) := by decide +kernel
theorem dX4_findOpen_14 : decode cX4_findOpen 14 = .ok (.iload_n 2, 1) := by decide +kernel
theorem dX4_findOpen_15 : decode cX4_findOpen 15 = .ok (.aaload, 1) := by decide +kernel
theorem dX4_findOpen_16 : decode cX4_findOpen 16 = .ok (.getfield 54, 3) := by decide +kernel
theorem dX4_findOpen_19 : decode cX4_findOpen 19 = .ok (.astore_n 3, 1) := by decide +kernel
theorem dX4_findOpen_20 : decode cX4_findOpen 20 = .ok (.aload_n 3, 1) := by decide +kernel
theorem dX4_findOpen_21 : decode cX4_findOpen 21 = .ok (.getfield 111, 3) := by decide +kernel
theorem dX4_findOpen_24 : decode cX4_findOpen 24 = .ok (.ifCond .eq 13, 3) := by decide +kernel
theorem dX4_findOpen_27 : decode cX4_findOpen 27 = .ok (.aload_n 3, 1) := by decide +kernel
theorem dX4_findOpen_28 : decode cX4_findOpen 28 = .ok (.getfield 173, 3) := by decide +kernel
theorem dX4_findOpen_31 : decode cX4_findOpen 31 = .ok (.iload_n 1, 1) := by decide +kernel
theorem dX4_findOpen_32 : decode cX4_findOpen 32 = .ok (.if_icmp .ne 5, 3) := by decide +kernel
theorem dX4_findOpen_35 : decode cX4_findOpen 35 = .ok (.aload_n 3, 1) := by decide +kernel
theorem dX4_findOpen_36 : decode cX4_findOpen 36 = .ok (.areturn, 1) := by decide +kernel
theorem dX4_findOpen_37 : decode cX4_findOpen 37 = .ok (.iinc 2 1, 3) := by decide +kernel
theorem dX4_findOpen_40 : decode cX4_findOpen 40 = .ok (.goto (-38), 3) := by decide +kernel
theorem dX4_findOpen_43 : decode cX4_findOpen 43 = .ok (.aconst_null, 1) := by decide +kernel
theorem dX4_findOpen_44 : decode cX4_findOpen 44 = .ok (.areturn, 1) := by decide +kernel
theorem dX4_bothHold_0 : decode cX4_bothHold 0 = .ok (.aload_n 0, 1) := by decide +kernel
theorem dX4_bothHold_1 : decode cX4_bothHold 1 = .ok (.getfield 19, 3) := by decide +kernel
theorem dX4_bothHold_4 : decode cX4_bothHold 4 = .ok (.ifCond .eq 14, 3) := by decide +kernel
theorem dX4_bothHold_7 : decode cX4_bothHold 7 = .ok (.aload_n 0, 1) := by decide +kernel
theorem dX4_bothHold_8 : decode cX4_bothHold 8 = .ok (.getfield 23, 3) := by decide +kernel
theorem dX4_bothHold_11 : decode cX4_bothHold 11 = .ok (.ifCond .eq 7, 3) := by decide +kernel
theorem dX4_bothHold_14 : decode cX4_bothHold 14 = .ok (.iconst 1, 1) := by decide +kernel
theorem dX4_bothHold_15 : decode cX4_bothHold 15 = .ok (.goto 4, 3) := by decide +kernel
theorem dX4_bothHold_18 : decode cX4_bothHold 18 = .ok (.iconst 0, 1) := by decide +kernel
theorem dX4_bothHold_19 : decode cX4_bothHold 19 = .ok (.ireturn, 1) := by decide +kernel
theorem dX4_refusalOf_0 : decode cX4_refusalOf 0 = .ok (.iload_n 2, 1) := by decide +kernel
theorem dX4_refusalOf_1 : decode cX4_refusalOf 1 = .ok (.iconst 1, 1) := by decide +kernel
theorem dX4_refusalOf_2 : decode cX4_refusalOf 2 = .ok (.if_icmp .lt 17, 3) := by decide +kernel
theorem dX4_refusalOf_5 : decode cX4_refusalOf 5 = .ok (.iload_n 2, 1) := by decide +kernel
theorem dX4_refusalOf_6 : decode cX4_refusalOf 6 = .ok (.sipush 1000, 3) := by decide +kernel
theorem dX4_refusalOf_9 : decode cX4_refusalOf 9 = .ok (.if_icmp .gt 10, 3) := by decide +kernel
theorem dX4_refusalOf_12 : decode cX4_refusalOf 12 = .ok (.aload_n 0, 1) := by decide +kernel
theorem dX4_refusalOf_13 : decode cX4_refusalOf 13 = .ok (.getfield 40, 3) := by decide +kernel
theorem dX4_refusalOf_16 : decode cX4_refusalOf 16 = .ok (.ifCond .ne 6, 3) := by decide +kernel
theorem dX4_refusalOf_19 : decode cX4_refusalOf 19 = .ok (.bipush (-2), 2) := by decide +kernel
theorem dX4_refusalOf_21 : decode cX4_refusalOf 21 = .ok (.ireturn, 1) := by decide +kernel
theorem dX4_refusalOf_22 : decode cX4_refusalOf 22 = .ok (.aload_n 1, 1) := by decide +kernel
theorem dX4_refusalOf_23 : decode cX4_refusalOf 23 = .ok (.getfield 54, 3) := by decide +kernel
theorem dX4_refusalOf_26 : decode cX4_refusalOf 26 = .ok (.getfield 111, 3) := by decide +kernel
theorem dX4_refusalOf_29 : decode cX4_refusalOf 29 = .ok (.iconst 2, 1) := by decide +kernel
theorem dX4_refusalOf_30 : decode cX4_refusalOf 30 = .ok (.if_icmp .eq 14, 3) := by decide +kernel
theorem dX4_refusalOf_33 : decode cX4_refusalOf 33 = .ok (.aload_n 1, 1) := by decide +kernel
theorem dX4_refusalOf_34 : decode cX4_refusalOf 34 = .ok (.getfield 54, 3) := by decide +kernel
theorem dX4_refusalOf_37 : decode cX4_refusalOf 37 = .ok (.getfield 111, 3) := by decide +kernel
theorem dX4_refusalOf_40 : decode cX4_refusalOf 40 = .ok (.iconst 3, 1) := by decide +kernel
theorem dX4_refusalOf_41 : decode cX4_refusalOf 41 = .ok (.if_icmp .ne 6, 3) := by decide +kernel
theorem dX4_refusalOf_44 : decode cX4_refusalOf 44 = .ok (.bipush (-3), 2) := by decide +kernel
theorem dX4_refusalOf_46 : decode cX4_refusalOf 46 = .ok (.ireturn, 1) := by decide +kernel
theorem dX4_refusalOf_47 : decode cX4_refusalOf 47 = .ok (.aload_n 0, 1) := by decide +kernel
theorem dX4_refusalOf_48 : decode cX4_refusalOf 48 = .ok (.getfield 51, 3) := by decide +kernel
theorem dX4_refusalOf_51 : decode cX4_refusalOf 51 = .ok (.bipush 60, 2) := by decide +kernel
theorem dX4_refusalOf_53 : decode cX4_refusalOf 53 = .ok (.if_icmp .lt 6, 3) := by decide +kernel
theorem dX4_refusalOf_56 : decode cX4_refusalOf 56 = .ok (.bipush (-4), 2) := by decide +kernel
theorem dX4_refusalOf_58 : decode cX4_refusalOf 58 = .ok (.ireturn, 1) := by decide +kernel
theorem dX4_refusalOf_59 : decode cX4_refusalOf 59 = .ok (.iload_n 3, 1) := by decide +kernel
theorem dX4_refusalOf_60 : decode cX4_refusalOf 60 = .ok (.ifCond .ne 6, 3) := by decide +kernel
theorem dX4_refusalOf_63 : decode cX4_refusalOf 63 = .ok (.bipush (-5), 2) := by decide +kernel
theorem dX4_refusalOf_65 : decode cX4_refusalOf 65 = .ok (.ireturn, 1) := by decide +kernel
theorem dX4_refusalOf_66 : decode cX4_refusalOf 66 = .ok (.aload_n 0, 1) := by decide +kernel
theorem dX4_refusalOf_67 : decode cX4_refusalOf 67 = .ok (.getfield 15, 3) := by decide +kernel
theorem dX4_refusalOf_70 : decode cX4_refusalOf 70 = .ok (.iconst 0, 1) := by decide +kernel
theorem dX4_refusalOf_71 : decode cX4_refusalOf 71 = .ok (.baload, 1) := by decide +kernel
theorem dX4_refusalOf_72 : decode cX4_refusalOf 72 = .ok (.aload_n 1, 1) := by decide +kernel
theorem dX4_refusalOf_73 : decode cX4_refusalOf 73 = .ok (.getfield 176, 3) := by decide +kernel
theorem dX4_refusalOf_76 : decode cX4_refusalOf 76 = .ok (.if_icmp .eq 6, 3) := by decide +kernel
theorem dX4_refusalOf_79 : decode cX4_refusalOf 79 = .ok (.bipush (-6), 2) := by decide +kernel
theorem dX4_refusalOf_81 : decode cX4_refusalOf 81 = .ok (.ireturn, 1) := by decide +kernel
theorem dX4_refusalOf_82 : decode cX4_refusalOf 82 = .ok (.iload_n 2, 1) := by decide +kernel
theorem dX4_refusalOf_83 : decode cX4_refusalOf 83 = .ok (.aload_n 1, 1) := by decide +kernel
theorem dX4_refusalOf_84 : decode cX4_refusalOf 84 = .ok (.getfield 170, 3) := by decide +kernel
theorem dX4_refusalOf_87 : decode cX4_refusalOf 87 = .ok (.if_icmp .gt 8, 3) := by decide +kernel
theorem dX4_refusalOf_90 : decode cX4_refusalOf 90 = .ok (.bipush (-7), 2) := by decide +kernel
theorem dX4_refusalOf_92 : decode cX4_refusalOf 92 = .ok (.goto 4, 3) := by decide +kernel
theorem dX4_refusalOf_95 : decode cX4_refusalOf 95 = .ok (.iconst 0, 1) := by decide +kernel
theorem dX4_refusalOf_96 : decode cX4_refusalOf 96 = .ok (.ireturn, 1) := by decide +kernel
set_option maxRecDepth 20000 in
theorem ggX4_joinSets_X3_isOf : GoodIn wsX4_joinSets wsX3_isOf := goodIn_r _ [9, 10, 11, 30, 31, 32, 33, 34, 35, 36, 37] (by decide +kernel) (by decide +kernel)
set_option maxRecDepth 20000 in
theorem gX4_joinSets_X3_isOf : GoodIn wsX4_joinSets (wsV RX4 179 RX3 yX3_isOf wsX3_isOf) := goodIn_app (goodIn_of _ (by decide +kernel)) ggX4_joinSets_X3_isOf
theorem dX4_joinSets_0 : decode cX4_joinSets 0 = .ok (.iconst 0, 1) := by decide +kernel
theorem dX4_joinSets_1 : decode cX4_joinSets 1 = .ok (.istore_n 3, 1) := by decide +kernel
theorem dX4_joinSets_2 : decode cX4_joinSets 2 = .ok (.iconst 0, 1) := by decide +kernel
theorem dX4_joinSets_3 : decode cX4_joinSets 3 = .ok (.istore 4, 2) := by decide +kernel
theorem dX4_joinSets_5 : decode cX4_joinSets 5 = .ok (.iload 4, 2) := by decide +kernel
theorem dX4_joinSets_7 : decode cX4_joinSets 7 = .ok (.aload_n 0, 1) := by decide +kernel
theorem dX4_joinSets_8 : decode cX4_joinSets 8 = .ok (.getfield 33, 3) := by decide +kernel
theorem dX4_joinSets_11 : decode cX4_joinSets 11 = .ok (.if_icmp .ge 48, 3) := by decide +kernel
theorem dX4_joinSets_14 : decode cX4_joinSets 14 = .ok (.aload_n 0, 1) := by decide +kernel
theorem dX4_joinSets_15 : decode cX4_joinSets 15 = .ok (.getfield 11, 3) := by decide +kernel
theorem dX4_joinSets_18 : decode cX4_joinSets 18 = .ok (.iload 4, 2) := by decide +kernel
theorem dX4_joinSets_20 : decode cX4_joinSets 20 = .ok (.aaload, 1) := by decide +kernel
theorem dX4_joinSets_21 : decode cX4_joinSets 21 = .ok (.getfield 54, 3) := by decide +kernel
theorem dX4_joinSets_24 : decode cX4_joinSets 24 = .ok (.astore 5, 2) := by decide +kernel
theorem dX4_joinSets_26 : decode cX4_joinSets 26 = .ok (.aload 5, 2) := by decide +kernel
theorem dX4_joinSets_28 : decode cX4_joinSets 28 = .ok (.iload_n 1, 1) := by decide +kernel
theorem dX4_joinSets_29 : decode cX4_joinSets 29 = .ok (.invokevirtual 179, 3) := by decide +kernel
theorem dX4_joinSets_32 : decode cX4_joinSets 32 = .ok (.ifCond .ne 12, 3) := by decide +kernel
theorem dX4_joinSets_35 : decode cX4_joinSets 35 = .ok (.aload 5, 2) := by decide +kernel
theorem dX4_joinSets_37 : decode cX4_joinSets 37 = .ok (.iload_n 2, 1) := by decide +kernel
theorem dX4_joinSets_38 : decode cX4_joinSets 38 = .ok (.invokevirtual 179, 3) := by decide +kernel
theorem dX4_joinSets_41 : decode cX4_joinSets 41 = .ok (.ifCond .eq 12, 3) := by decide +kernel
theorem dX4_joinSets_44 : decode cX4_joinSets 44 = .ok (.aload 5, 2) := by decide +kernel
theorem dX4_joinSets_46 : decode cX4_joinSets 46 = .ok (.iload_n 1, 1) := by decide +kernel
theorem dX4_joinSets_47 : decode cX4_joinSets 47 = .ok (.putfield 90, 3) := by decide +kernel
theorem dX4_joinSets_50 : decode cX4_joinSets 50 = .ok (.iinc 3 1, 3) := by decide +kernel
theorem dX4_joinSets_53 : decode cX4_joinSets 53 = .ok (.iinc 4 1, 3) := by decide +kernel
theorem dX4_joinSets_56 : decode cX4_joinSets 56 = .ok (.goto (-51), 3) := by decide +kernel
theorem dX4_joinSets_59 : decode cX4_joinSets 59 = .ok (.iload_n 3, 1) := by decide +kernel
theorem dX4_joinSets_60 : decode cX4_joinSets 60 = .ok (.ireturn, 1) := by decide +kernel
set_option maxRecDepth 20000 in
theorem ggX4_stepOfReady_X4_switchBanks : GoodIn wsX4_stepOfReady wsX4_switchBanks := goodIn_r _ [8, 1, 9, 3, 10, 11, 12, 13, 14, 15, 16, 17, 18, 19, 20, 21, 7, 22, 23, 24, 25, 26, 27, 28, 29, 30, 31, 32, 33, 34, 35, 36, 37, 58, 59, 60, 61, 62, 63, 64, 65, 66, 67, 68, 69, 70, 71, 72, 73, 74, 75, 76, 77, 78, 79, 80, 81, 82, 83, 84, 85, 86] (by decide +kernel) (by decide +kernel)
set_option maxRecDepth 20000 in
theorem gX4_stepOfReady_X4_switchBanks : GoodIn wsX4_stepOfReady (wsV RX4 127 RX4 yX4_switchBanks wsX4_switchBanks) := goodIn_app (goodIn_of _ (by decide +kernel)) ggX4_stepOfReady_X4_switchBanks
set_option maxRecDepth 20000 in
theorem ggX4_stepOfReady_X4_bothHold : GoodIn wsX4_stepOfReady wsX4_bothHold := goodIn_r _ [41, 42, 43, 79, 80, 81, 82, 83, 84, 85, 86] (by decide +kernel) (by decide +kernel)
set_option maxRecDepth 20000 in
theorem gX4_stepOfReady_X4_bothHold : GoodIn wsX4_stepOfReady (wsV RX4 104 RX4 yX4_bothHold wsX4_bothHold) := goodIn_app (goodIn_of _ (by decide +kernel)) ggX4_stepOfReady_X4_bothHold
set_option maxRecDepth 20000 in
theorem ggX4_stepOfReady_X4_allCanCommit : GoodIn wsX4_stepOfReady wsX4_allCanCommit := goodIn_r _ [47, 23, 24, 1, 9, 25, 26, 27, 28, 29, 30, 31, 48, 49, 50, 13, 51, 52, 53, 79, 80, 81, 82, 83, 84, 85, 86, 58, 59, 60, 61, 62, 63, 64, 65, 66, 67, 68, 69, 70, 71, 72, 73, 74, 75] (by decide +kernel) (by decide +kernel)
set_option maxRecDepth 20000 in
theorem gX4_stepOfReady_X4_allCanCommit : GoodIn wsX4_stepOfReady (wsV RX4 182 RX4 yX4_allCanCommit wsX4_allCanCommit) := goodIn_app (goodIn_of _ (by decide +kernel)) ggX4_stepOfReady_X4_allCanCommit
set_option maxRecDepth 20000 in
theorem ggX4_stepOfReady_X4_commit : GoodIn wsX4_stepOfReady wsX4_commit := goodIn_r _ [57, 23, 24, 1, 2, 25, 26, 27, 28, 29, 30, 31, 79, 80, 81, 82, 83, 84, 85, 86, 58, 59, 60, 61, 62, 63, 64, 65, 66, 67, 68, 69, 70, 71, 72, 73, 74, 75] (by decide +kernel) (by decide +kernel)
set_option maxRecDepth 20000 in
theorem gX4_stepOfReady_X4_commit : GoodIn wsX4_stepOfReady (wsV RX4 185 RX4 yX4_commit wsX4_commit) := goodIn_app (goodIn_of _ (by decide +kernel)) ggX4_stepOfReady_X4_commit
theorem dX4_stepOfReady_0 : decode cX4_stepOfReady 0 = .ok (.aload_n 1, 1) := by decide +kernel
theorem dX4_stepOfReady_1 : decode cX4_stepOfReady 1 = .ok (.getfield 54, 3) := by decide +kernel
theorem dX4_stepOfReady_4 : decode cX4_stepOfReady 4 = .ok (.getfield 87, 3) := by decide +kernel
theorem dX4_stepOfReady_7 : decode cX4_stepOfReady 7 = .ok (.ifCond .eq 10, 3) := by decide +kernel
theorem dX4_stepOfReady_10 : decode cX4_stepOfReady 10 = .ok (.aload_n 0, 1) := by decide +kernel
theorem dX4_stepOfReady_11 : decode cX4_stepOfReady 11 = .ok (.aload_n 1, 1) := by decide +kernel
theorem dX4_stepOfReady_12 : decode cX4_stepOfReady 12 = .ok (.invokevirtual 127, 3) := by decide +kernel
theorem dX4_stepOfReady_15 : decode cX4_stepOfReady 15 = .ok (.iconst 3, 1) := by decide +kernel
theorem dX4_stepOfReady_16 : decode cX4_stepOfReady 16 = .ok (.ireturn, 1) := by decide +kernel
theorem dX4_stepOfReady_17 : decode cX4_stepOfReady 17 = .ok (.aload_n 0, 1) := by decide +kernel
theorem dX4_stepOfReady_18 : decode cX4_stepOfReady 18 = .ok (.invokevirtual 104, 3) := by decide +kernel
theorem dX4_stepOfReady_21 : decode cX4_stepOfReady 21 = .ok (.ifCond .eq 28, 3) := by decide +kernel
theorem dX4_stepOfReady_24 : decode cX4_stepOfReady 24 = .ok (.aload_n 0, 1) := by decide +kernel
theorem dX4_stepOfReady_25 : decode cX4_stepOfReady 25 = .ok (.aload_n 1, 1) := by decide +kernel
theorem dX4_stepOfReady_26 : decode cX4_stepOfReady 26 = .ok (.getfield 54, 3) := by decide +kernel
theorem dX4_stepOfReady_29 : decode cX4_stepOfReady 29 = .ok (.getfield 90, 3) := by decide +kernel
theorem dX4_stepOfReady_32 : decode cX4_stepOfReady 32 = .ok (.invokevirtual 182, 3) := by decide +kernel
theorem dX4_stepOfReady_35 : decode cX4_stepOfReady 35 = .ok (.ifCond .eq 14, 3) := by decide +kernel
theorem dX4_stepOfReady_38 : decode cX4_stepOfReady 38 = .ok (.aload_n 0, 1) := by decide +kernel
theorem dX4_stepOfReady_39 : decode cX4_stepOfReady 39 = .ok (.aload_n 1, 1) := by decide +kernel
theorem dX4_stepOfReady_40 : decode cX4_stepOfReady 40 = .ok (.getfield 54, 3) := by decide +kernel
theorem dX4_stepOfReady_43 : decode cX4_stepOfReady 43 = .ok (.getfield 90, 3) := by decide +kernel
theorem dX4_stepOfReady_46 : decode cX4_stepOfReady 46 = .ok (.invokevirtual 185, 3) := by decide +kernel
theorem dX4_stepOfReady_49 : decode cX4_stepOfReady 49 = .ok (.iconst 2, 1) := by decide +kernel
theorem dX4_stepOfReady_50 : decode cX4_stepOfReady 50 = .ok (.ireturn, 1) := by decide +kernel
set_option maxRecDepth 20000 in
theorem ggX4_allCanCommit_X3_isOf : GoodIn wsX4_allCanCommit wsX3_isOf := goodIn_r _ [9, 10, 11, 37, 38, 39, 40, 41, 42, 43, 44] (by decide +kernel) (by decide +kernel)
set_option maxRecDepth 20000 in
theorem gX4_allCanCommit_X3_isOf : GoodIn wsX4_allCanCommit (wsV RX4 179 RX3 yX3_isOf wsX3_isOf) := goodIn_app (goodIn_of _ (by decide +kernel)) ggX4_allCanCommit_X3_isOf
set_option maxRecDepth 20000 in
theorem ggX4_allCanCommit_X1_isAway : GoodIn wsX4_allCanCommit wsX1_isAway := goodIn_r _ [16, 17, 18, 27, 28, 29, 30, 31, 32, 33, 34, 35, 36] (by decide +kernel) (by decide +kernel)
set_option maxRecDepth 20000 in
theorem gX4_allCanCommit_X1_isAway : GoodIn wsX4_allCanCommit (wsV RX4 108 RX1 yX1_isAway wsX1_isAway) := goodIn_app (goodIn_of _ (by decide +kernel)) ggX4_allCanCommit_X1_isAway
theorem dX4_allCanCommit_0 : decode cX4_allCanCommit 0 = .ok (.iconst 0, 1) := by decide +kernel
theorem dX4_allCanCommit_1 : decode cX4_allCanCommit 1 = .ok (.istore_n 2, 1) := by decide +kernel
theorem dX4_allCanCommit_2 : decode cX4_allCanCommit 2 = .ok (.iload_n 2, 1) := by decide +kernel
theorem dX4_allCanCommit_3 : decode cX4_allCanCommit 3 = .ok (.aload_n 0, 1) := by decide +kernel
theorem dX4_allCanCommit_4 : decode cX4_allCanCommit 4 = .ok (.getfield 33, 3) := by decide +kernel
theorem dX4_allCanCommit_7 : decode cX4_allCanCommit 7 = .ok (.if_icmp .ge 47, 3) := by decide +kernel
theorem dX4_allCanCommit_10 : decode cX4_allCanCommit 10 = .ok (.aload_n 0, 1) := by decide +kernel
theorem dX4_allCanCommit_11 : decode cX4_allCanCommit 11 = .ok (.getfield 11, 3) := by decide +kernel
theorem dX4_allCanCommit_14 : decode cX4_allCanCommit 14 = .ok (.iload_n 2, 1) := by decide +kernel
theorem dX4_allCanCommit_15 : decode cX4_allCanCommit 15 = .ok (.aaload, 1) := by decide +kernel
theorem dX4_allCanCommit_16 : decode cX4_allCanCommit 16 = .ok (.astore_n 3, 1) := by decide +kernel
theorem dX4_allCanCommit_17 : decode cX4_allCanCommit 17 = .ok (.aload_n 3, 1) := by decide +kernel
theorem dX4_allCanCommit_18 : decode cX4_allCanCommit 18 = .ok (.getfield 54, 3) := by decide +kernel
theorem dX4_allCanCommit_21 : decode cX4_allCanCommit 21 = .ok (.iload_n 1, 1) := by decide +kernel
theorem dX4_allCanCommit_22 : decode cX4_allCanCommit 22 = .ok (.invokevirtual 179, 3) := by decide +kernel
theorem dX4_allCanCommit_25 : decode cX4_allCanCommit 25 = .ok (.ifCond .eq 23, 3) := by decide +kernel
theorem dX4_allCanCommit_28 : decode cX4_allCanCommit 28 = .ok (.aload_n 3, 1) := by decide +kernel
theorem dX4_allCanCommit_29 : decode cX4_allCanCommit 29 = .ok (.getfield 54, 3) := by decide +kernel
theorem dX4_allCanCommit_32 : decode cX4_allCanCommit 32 = .ok (.getfield 111, 3) := by decide +kernel
theorem dX4_allCanCommit_35 : decode cX4_allCanCommit 35 = .ok (.iconst 2, 1) := by decide +kernel
theorem dX4_allCanCommit_36 : decode cX4_allCanCommit 36 = .ok (.if_icmp .ne 10, 3) := by decide +kernel
theorem dX4_allCanCommit_39 : decode cX4_allCanCommit 39 = .ok (.aload_n 3, 1) := by decide +kernel
theorem dX4_allCanCommit_40 : decode cX4_allCanCommit 40 = .ok (.invokevirtual 108, 3) := by decide +kernel
theorem dX4_allCanCommit_43 : decode cX4_allCanCommit 43 = .ok (.ifCond .eq 5, 3) := by decide +kernel
theorem dX4_allCanCommit_46 : decode cX4_allCanCommit 46 = .ok (.iconst 0, 1) := by decide +kernel
theorem dX4_allCanCommit_47 : decode cX4_allCanCommit 47 = .ok (.ireturn, 1) := by decide +kernel
theorem dX4_allCanCommit_48 : decode cX4_allCanCommit 48 = .ok (.iinc 2 1, 3) := by decide +kernel
theorem dX4_allCanCommit_51 : decode cX4_allCanCommit 51 = .ok (.goto (-49), 3) := by decide +kernel
theorem dX4_allCanCommit_54 : decode cX4_allCanCommit 54 = .ok (.iconst 1, 1) := by decide +kernel
theorem dX4_allCanCommit_55 : decode cX4_allCanCommit 55 = .ok (.ireturn, 1) := by decide +kernel
set_option maxRecDepth 20000 in
theorem ggX4_commit_X3_isOf : GoodIn wsX4_commit wsX3_isOf := goodIn_r _ [9, 10, 11, 30, 31, 32, 33, 34, 35, 36, 37] (by decide +kernel) (by decide +kernel)
set_option maxRecDepth 20000 in
theorem gX4_commit_X3_isOf : GoodIn wsX4_commit (wsV RX4 179 RX3 yX3_isOf wsX3_isOf) := goodIn_app (goodIn_of _ (by decide +kernel)) ggX4_commit_X3_isOf
theorem dX4_commit_0 : decode cX4_commit 0 = .ok (.iconst 0, 1) := by decide +kernel
theorem dX4_commit_1 : decode cX4_commit 1 = .ok (.istore_n 2, 1) := by decide +kernel
theorem dX4_commit_2 : decode cX4_commit 2 = .ok (.iload_n 2, 1) := by decide +kernel
theorem dX4_commit_3 : decode cX4_commit 3 = .ok (.aload_n 0, 1) := by decide +kernel
theorem dX4_commit_4 : decode cX4_commit 4 = .ok (.getfield 33, 3) := by decide +kernel
theorem dX4_commit_7 : decode cX4_commit 7 = .ok (.if_icmp .ge 32, 3) := by decide +kernel
theorem dX4_commit_10 : decode cX4_commit 10 = .ok (.aload_n 0, 1) := by decide +kernel
theorem dX4_commit_11 : decode cX4_commit 11 = .ok (.getfield 11, 3) := by decide +kernel
theorem dX4_commit_14 : decode cX4_commit 14 = .ok (.iload_n 2, 1) := by decide +kernel
theorem dX4_commit_15 : decode cX4_commit 15 = .ok (.aaload, 1) := by decide +kernel
theorem dX4_commit_16 : decode cX4_commit 16 = .ok (.getfield 54, 3) := by decide +kernel
theorem dX4_commit_19 : decode cX4_commit 19 = .ok (.astore_n 3, 1) := by decide +kernel
theorem dX4_commit_20 : decode cX4_commit 20 = .ok (.aload_n 3, 1) := by decide +kernel
theorem dX4_commit_21 : decode cX4_commit 21 = .ok (.iload_n 1, 1) := by decide +kernel
theorem dX4_commit_22 : decode cX4_commit 22 = .ok (.invokevirtual 179, 3) := by decide +kernel
theorem dX4_commit_25 : decode cX4_commit 25 = .ok (.ifCond .eq 8, 3) := by decide +kernel
theorem dX4_commit_28 : decode cX4_commit 28 = .ok (.aload_n 3, 1) := by decide +kernel
theorem dX4_commit_29 : decode cX4_commit 29 = .ok (.iconst 1, 1) := by decide +kernel
theorem dX4_commit_30 : decode cX4_commit 30 = .ok (.putfield 87, 3) := by decide +kernel
theorem dX4_commit_33 : decode cX4_commit 33 = .ok (.iinc 2 1, 3) := by decide +kernel
theorem dX4_commit_36 : decode cX4_commit 36 = .ok (.goto (-34), 3) := by decide +kernel
theorem dX4_commit_39 : decode cX4_commit 39 = .ok (.return_, 1) := by decide +kernel
set_option maxRecDepth 20000 in
theorem ggX4_switchBanks_X1_runOtherBank : GoodIn wsX4_switchBanks wsX1_runOtherBank := goodIn_r _ [8, 9, 10, 11, 12, 33, 34, 35, 36, 37, 38, 39, 40, 41, 42, 51, 52, 53] (by decide +kernel) (by decide +kernel)
set_option maxRecDepth 20000 in
theorem gX4_switchBanks_X1_runOtherBank : GoodIn wsX4_switchBanks (wsV RX4 164 RX1 yX1_runOtherBank wsX1_runOtherBank) := goodIn_app (goodIn_of _ (by decide +kernel)) ggX4_switchBanks_X1_runOtherBank
set_option maxRecDepth 20000 in
theorem ggX4_switchBanks_X4_allSwitched : GoodIn wsX4_switchBanks wsX4_allSwitched := goodIn_r _ [17, 18, 19, 1, 2, 20, 21, 22, 23, 24, 25, 26, 54, 55, 56, 57, 58, 59, 60, 61, 33, 34, 35, 36, 37, 38, 39, 40, 41, 42, 43, 44, 45, 46, 47, 48, 49, 50] (by decide +kernel) (by decide +kernel)
set_option maxRecDepth 20000 in
theorem gX4_switchBanks_X4_allSwitched : GoodIn wsX4_switchBanks (wsV RX4 188 RX4 yX4_allSwitched wsX4_allSwitched) := goodIn_app (goodIn_of _ (by decide +kernel)) ggX4_switchBanks_X4_allSwitched
set_option maxRecDepth 20000 in
theorem ggX4_switchBanks_X4_makeLastSet : GoodIn wsX4_switchBanks wsX4_makeLastSet := goodIn_r _ [30, 18, 19, 1, 31, 32, 2, 20, 21, 22, 23, 24, 25, 26, 54, 55, 56, 57, 58, 59, 60, 61, 33, 34, 35, 36, 37, 38, 39, 40, 41, 42, 43, 44, 45, 46, 47, 48, 49, 50] (by decide +kernel) (by decide +kernel)
set_option maxRecDepth 20000 in
theorem gX4_switchBanks_X4_makeLastSet : GoodIn wsX4_switchBanks (wsV RX4 191 RX4 yX4_makeLastSet wsX4_makeLastSet) := goodIn_app (goodIn_of _ (by decide +kernel)) ggX4_switchBanks_X4_makeLastSet
theorem dX4_switchBanks_0 : decode cX4_switchBanks 0 = .ok (.aload_n 1, 1) := by decide +kernel
theorem dX4_switchBanks_1 : decode cX4_switchBanks 1 = .ok (.invokevirtual 164, 3) := by decide +kernel
theorem dX4_switchBanks_4 : decode cX4_switchBanks 4 = .ok (.aload_n 1, 1) := by decide +kernel
theorem dX4_switchBanks_5 : decode cX4_switchBanks 5 = .ok (.getfield 54, 3) := by decide +kernel
theorem dX4_switchBanks_8 : decode cX4_switchBanks 8 = .ok (.iconst 3, 1) := by decide +kernel
theorem dX4_switchBanks_9 : decode cX4_switchBanks 9 = .ok (.putfield 111, 3) := by decide +kernel
theorem dX4_switchBanks_12 : decode cX4_switchBanks 12 = .ok (.aload_n 0, 1) := by decide +kernel
theorem dX4_switchBanks_13 : decode cX4_switchBanks 13 = .ok (.aload_n 1, 1) := by decide +kernel
theorem dX4_switchBanks_14 : decode cX4_switchBanks 14 = .ok (.getfield 54, 3) := by decide +kernel
theorem dX4_switchBanks_17 : decode cX4_switchBanks 17 = .ok (.getfield 90, 3) := by decide +kernel
theorem dX4_switchBanks_20 : decode cX4_switchBanks 20 = .ok (.invokevirtual 188, 3) := by decide +kernel
theorem dX4_switchBanks_23 : decode cX4_switchBanks 23 = .ok (.ifCond .eq 14, 3) := by decide +kernel
theorem dX4_switchBanks_26 : decode cX4_switchBanks 26 = .ok (.aload_n 0, 1) := by decide +kernel
theorem dX4_switchBanks_27 : decode cX4_switchBanks 27 = .ok (.aload_n 1, 1) := by decide +kernel
theorem dX4_switchBanks_28 : decode cX4_switchBanks 28 = .ok (.getfield 54, 3) := by decide +kernel
theorem dX4_switchBanks_31 : decode cX4_switchBanks 31 = .ok (.getfield 90, 3) := by decide +kernel
theorem dX4_switchBanks_34 : decode cX4_switchBanks 34 = .ok (.invokevirtual 191, 3) := by decide +kernel
theorem dX4_switchBanks_37 : decode cX4_switchBanks 37 = .ok (.return_, 1) := by decide +kernel
set_option maxRecDepth 20000 in
theorem ggX4_allSwitched_X3_isOf : GoodIn wsX4_allSwitched wsX3_isOf := goodIn_r _ [9, 10, 11, 30, 31, 32, 33, 34, 35, 36, 37] (by decide +kernel) (by decide +kernel)
set_option maxRecDepth 20000 in
theorem gX4_allSwitched_X3_isOf : GoodIn wsX4_allSwitched (wsV RX4 179 RX3 yX3_isOf wsX3_isOf) := goodIn_app (goodIn_of _ (by decide +kernel)) ggX4_allSwitched_X3_isOf
theorem dX4_allSwitched_0 : decode cX4_allSwitched 0 = .ok (.iconst 0, 1) := by decide +kernel
theorem dX4_allSwitched_1 : decode cX4_allSwitched 1 = .ok (.istore_n 2, 1) := by decide +kernel
theorem dX4_allSwitched_2 : decode cX4_allSwitched 2 = .ok (.iload_n 2, 1) := by decide +kernel
theorem dX4_allSwitched_3 : decode cX4_allSwitched 3 = .ok (.aload_n 0, 1) := by decide +kernel
theorem dX4_allSwitched_4 : decode cX4_allSwitched 4 = .ok (.getfield 33, 3) := by decide +kernel
theorem dX4_allSwitched_7 : decode cX4_allSwitched 7 = .ok (.if_icmp .ge 37, 3) := by decide +kernel
theorem dX4_allSwitched_10 : decode cX4_allSwitched 10 = .ok (.aload_n 0, 1) := by decide +kernel
theorem dX4_allSwitched_11 : decode cX4_allSwitched 11 = .ok (.getfield 11, 3) := by decide +kernel
theorem dX4_allSwitched_14 : decode cX4_allSwitched 14 = .ok (.iload_n 2, 1) := by decide +kernel
theorem dX4_allSwitched_15 : decode cX4_allSwitched 15 = .ok (.aaload, 1) := by decide +kernel
theorem dX4_allSwitched_16 : decode cX4_allSwitched 16 = .ok (.getfield 54, 3) := by decide +kernel
theorem dX4_allSwitched_19 : decode cX4_allSwitched 19 = .ok (.astore_n 3, 1) := by decide +kernel
theorem dX4_allSwitched_20 : decode cX4_allSwitched 20 = .ok (.aload_n 3, 1) := by decide +kernel
theorem dX4_allSwitched_21 : decode cX4_allSwitched 21 = .ok (.iload_n 1, 1) := by decide +kernel
theorem dX4_allSwitched_22 : decode cX4_allSwitched 22 = .ok (.invokevirtual 179, 3) := by decide +kernel
theorem dX4_allSwitched_25 : decode cX4_allSwitched 25 = .ok (.ifCond .eq 13, 3) := by decide +kernel
theorem dX4_allSwitched_28 : decode cX4_allSwitched 28 = .ok (.aload_n 3, 1) := by decide +kernel
theorem dX4_allSwitched_29 : decode cX4_allSwitched 29 = .ok (.getfield 111, 3) := by decide +kernel
theorem dX4_allSwitched_32 : decode cX4_allSwitched 32 = .ok (.iconst 3, 1) := by decide +kernel
theorem dX4_allSwitched_33 : decode cX4_allSwitched 33 = .ok (.if_icmp .eq 5, 3) := by decide +kernel
theorem dX4_allSwitched_36 : decode cX4_allSwitched 36 = .ok (.iconst 0, 1) := by decide +kernel
theorem dX4_allSwitched_37 : decode cX4_allSwitched 37 = .ok (.ireturn, 1) := by decide +kernel
theorem dX4_allSwitched_38 : decode cX4_allSwitched 38 = .ok (.iinc 2 1, 3) := by decide +kernel
theorem dX4_allSwitched_41 : decode cX4_allSwitched 41 = .ok (.goto (-39), 3) := by decide +kernel
theorem dX4_allSwitched_44 : decode cX4_allSwitched 44 = .ok (.iconst 1, 1) := by decide +kernel
theorem dX4_allSwitched_45 : decode cX4_allSwitched 45 = .ok (.ireturn, 1) := by decide +kernel
set_option maxRecDepth 20000 in
theorem ggX4_makeLastSet_X3_isOf : GoodIn wsX4_makeLastSet wsX3_isOf := goodIn_r _ [11, 12, 13, 32, 33, 34, 35, 36, 37, 38, 39] (by decide +kernel) (by decide +kernel)
set_option maxRecDepth 20000 in
theorem gX4_makeLastSet_X3_isOf : GoodIn wsX4_makeLastSet (wsV RX4 179 RX3 yX3_isOf wsX3_isOf) := goodIn_app (goodIn_of _ (by decide +kernel)) ggX4_makeLastSet_X3_isOf
theorem dX4_makeLastSet_0 : decode cX4_makeLastSet 0 = .ok (.iconst 0, 1) := by decide +kernel
theorem dX4_makeLastSet_1 : decode cX4_makeLastSet 1 = .ok (.istore_n 2, 1) := by decide +kernel
theorem dX4_makeLastSet_2 : decode cX4_makeLastSet 2 = .ok (.iload_n 2, 1) := by decide +kernel
theorem dX4_makeLastSet_3 : decode cX4_makeLastSet 3 = .ok (.aload_n 0, 1) := by decide +kernel
theorem dX4_makeLastSet_4 : decode cX4_makeLastSet 4 = .ok (.getfield 33, 3) := by decide +kernel
theorem dX4_makeLastSet_7 : decode cX4_makeLastSet 7 = .ok (.if_icmp .ge 54, 3) := by decide +kernel
theorem dX4_makeLastSet_10 : decode cX4_makeLastSet 10 = .ok (.aload_n 0, 1) := by decide +kernel
theorem dX4_makeLastSet_11 : decode cX4_makeLastSet 11 = .ok (.getfield 11, 3) := by decide +kernel
theorem dX4_makeLastSet_14 : decode cX4_makeLastSet 14 = .ok (.iload_n 2, 1) := by decide +kernel
theorem dX4_makeLastSet_15 : decode cX4_makeLastSet 15 = .ok (.aaload, 1) := by decide +kernel
theorem dX4_makeLastSet_16 : decode cX4_makeLastSet 16 = .ok (.astore_n 3, 1) := by decide +kernel
theorem dX4_makeLastSet_17 : decode cX4_makeLastSet 17 = .ok (.aload_n 3, 1) := by decide +kernel
theorem dX4_makeLastSet_18 : decode cX4_makeLastSet 18 = .ok (.getfield 54, 3) := by decide +kernel
theorem dX4_makeLastSet_21 : decode cX4_makeLastSet 21 = .ok (.iload_n 1, 1) := by decide +kernel
theorem dX4_makeLastSet_22 : decode cX4_makeLastSet 22 = .ok (.invokevirtual 179, 3) := by decide +kernel
theorem dX4_makeLastSet_25 : decode cX4_makeLastSet 25 = .ok (.ifCond .eq 25, 3) := by decide +kernel
theorem dX4_makeLastSet_28 : decode cX4_makeLastSet 28 = .ok (.aload_n 3, 1) := by decide +kernel
theorem dX4_makeLastSet_29 : decode cX4_makeLastSet 29 = .ok (.aload_n 3, 1) := by decide +kernel
theorem dX4_makeLastSet_30 : decode cX4_makeLastSet 30 = .ok (.getfield 54, 3) := by decide +kernel
theorem dX4_makeLastSet_33 : decode cX4_makeLastSet 33 = .ok (.getfield 173, 3) := by decide +kernel
theorem dX4_makeLastSet_36 : decode cX4_makeLastSet 36 = .ok (.putfield 158, 3) := by decide +kernel
theorem dX4_makeLastSet_39 : decode cX4_makeLastSet 39 = .ok (.aload_n 3, 1) := by decide +kernel
theorem dX4_makeLastSet_40 : decode cX4_makeLastSet 40 = .ok (.getfield 54, 3) := by decide +kernel
theorem dX4_makeLastSet_43 : decode cX4_makeLastSet 43 = .ok (.iconst 0, 1) := by decide +kernel
theorem dX4_makeLastSet_44 : decode cX4_makeLastSet 44 = .ok (.putfield 111, 3) := by decide +kernel
theorem dX4_makeLastSet_47 : decode cX4_makeLastSet 47 = .ok (.goto 8, 3) := by decide +kernel
theorem dX4_makeLastSet_50 : decode cX4_makeLastSet 50 = .ok (.aload_n 3, 1) := by decide +kernel
theorem dX4_makeLastSet_51 : decode cX4_makeLastSet 51 = .ok (.iconst 0, 1) := by decide +kernel
theorem dX4_makeLastSet_52 : decode cX4_makeLastSet 52 = .ok (.putfield 158, 3) := by decide +kernel
theorem dX4_makeLastSet_55 : decode cX4_makeLastSet 55 = .ok (.iinc 2 1, 3) := by decide +kernel
theorem dX4_makeLastSet_58 : decode cX4_makeLastSet 58 = .ok (.goto (-56), 3) := by decide +kernel
theorem dX4_makeLastSet_61 : decode cX4_makeLastSet 61 = .ok (.return_, 1) := by decide +kernel
set_option maxRecDepth 20000 in
theorem ggX4_hasLastSet_X1_isOfLastSet : GoodIn wsX4_hasLastSet wsX1_isOfLastSet := goodIn_r _ [7, 8, 17, 18, 19, 20, 21, 22, 23, 24, 25, 26] (by decide +kernel) (by decide +kernel)
set_option maxRecDepth 20000 in
theorem gX4_hasLastSet_X1_isOfLastSet : GoodIn wsX4_hasLastSet (wsV RX4 152 RX1 yX1_isOfLastSet wsX1_isOfLastSet) := goodIn_app (goodIn_of _ (by decide +kernel)) ggX4_hasLastSet_X1_isOfLastSet
theorem dX4_hasLastSet_0 : decode cX4_hasLastSet 0 = .ok (.iconst 0, 1) := by decide +kernel
theorem dX4_hasLastSet_1 : decode cX4_hasLastSet 1 = .ok (.istore_n 1, 1) := by decide +kernel
theorem dX4_hasLastSet_2 : decode cX4_hasLastSet 2 = .ok (.iload_n 1, 1) := by decide +kernel
theorem dX4_hasLastSet_3 : decode cX4_hasLastSet 3 = .ok (.aload_n 0, 1) := by decide +kernel
theorem dX4_hasLastSet_4 : decode cX4_hasLastSet 4 = .ok (.getfield 33, 3) := by decide +kernel
theorem dX4_hasLastSet_7 : decode cX4_hasLastSet 7 = .ok (.if_icmp .ge 23, 3) := by decide +kernel
theorem dX4_hasLastSet_10 : decode cX4_hasLastSet 10 = .ok (.aload_n 0, 1) := by decide +kernel
theorem dX4_hasLastSet_11 : decode cX4_hasLastSet 11 = .ok (.getfield 11, 3) := by decide +kernel
theorem dX4_hasLastSet_14 : decode cX4_hasLastSet 14 = .ok (.iload_n 1, 1) := by decide +kernel
theorem dX4_hasLastSet_15 : decode cX4_hasLastSet 15 = .ok (.aaload, 1) := by decide +kernel
theorem dX4_hasLastSet_16 : decode cX4_hasLastSet 16 = .ok (.invokevirtual 152, 3) := by decide +kernel
theorem dX4_hasLastSet_19 : decode cX4_hasLastSet 19 = .ok (.ifCond .eq 5, 3) := by decide +kernel
theorem dX4_hasLastSet_22 : decode cX4_hasLastSet 22 = .ok (.iconst 1, 1) := by decide +kernel
theorem dX4_hasLastSet_23 : decode cX4_hasLastSet 23 = .ok (.ireturn, 1) := by decide +kernel
theorem dX4_hasLastSet_24 : decode cX4_hasLastSet 24 = .ok (.iinc 1 1, 3) := by decide +kernel
theorem dX4_hasLastSet_27 : decode cX4_hasLastSet 27 = .ok (.goto (-25), 3) := by decide +kernel
theorem dX4_hasLastSet_30 : decode cX4_hasLastSet 30 = .ok (.iconst 0, 1) := by decide +kernel
theorem dX4_hasLastSet_31 : decode cX4_hasLastSet 31 = .ok (.ireturn, 1) := by decide +kernel
set_option maxRecDepth 20000 in
theorem ggX4_lastSetMayGoBack_X1_isOfLastSet : GoodIn wsX4_lastSetMayGoBack wsX1_isOfLastSet := goodIn_r _ [9, 10, 25, 26, 27, 28, 29, 30, 31, 32, 33, 34] (by decide +kernel) (by decide +kernel)
set_option maxRecDepth 20000 in
theorem gX4_lastSetMayGoBack_X1_isOfLastSet : GoodIn wsX4_lastSetMayGoBack (wsV RX4 152 RX1 yX1_isOfLastSet wsX1_isOfLastSet) := goodIn_app (goodIn_of _ (by decide +kernel)) ggX4_lastSetMayGoBack_X1_isOfLastSet
set_option maxRecDepth 20000 in
theorem ggX4_lastSetMayGoBack_X1_isAway : GoodIn wsX4_lastSetMayGoBack wsX1_isAway := goodIn_r _ [14, 15, 16, 25, 26, 27, 28, 29, 30, 31, 32, 33, 34] (by decide +kernel) (by decide +kernel)
set_option maxRecDepth 20000 in
theorem gX4_lastSetMayGoBack_X1_isAway : GoodIn wsX4_lastSetMayGoBack (wsV RX4 108 RX1 yX1_isAway wsX1_isAway) := goodIn_app (goodIn_of _ (by decide +kernel)) ggX4_lastSetMayGoBack_X1_isAway
theorem dX4_lastSetMayGoBack_0 : decode cX4_lastSetMayGoBack 0 = .ok (.iconst 0, 1) := by decide +kernel
theorem dX4_lastSetMayGoBack_1 : decode cX4_lastSetMayGoBack 1 = .ok (.istore_n 1, 1) := by decide +kernel
theorem dX4_lastSetMayGoBack_2 : decode cX4_lastSetMayGoBack 2 = .ok (.iload_n 1, 1) := by decide +kernel
theorem dX4_lastSetMayGoBack_3 : decode cX4_lastSetMayGoBack 3 = .ok (.aload_n 0, 1) := by decide +kernel
theorem dX4_lastSetMayGoBack_4 : decode cX4_lastSetMayGoBack 4 = .ok (.getfield 33, 3) := by decide +kernel
theorem dX4_lastSetMayGoBack_7 : decode cX4_lastSetMayGoBack 7 = .ok (.if_icmp .ge 42, 3) := by decide +kernel
theorem dX4_lastSetMayGoBack_10 : decode cX4_lastSetMayGoBack 10 = .ok (.aload_n 0, 1) := by decide +kernel
theorem dX4_lastSetMayGoBack_11 : decode cX4_lastSetMayGoBack 11 = .ok (.getfield 11, 3) := by decide +kernel
theorem dX4_lastSetMayGoBack_14 : decode cX4_lastSetMayGoBack 14 = .ok (.iload_n 1, 1) := by decide +kernel
theorem dX4_lastSetMayGoBack_15 : decode cX4_lastSetMayGoBack 15 = .ok (.aaload, 1) := by decide +kernel
theorem dX4_lastSetMayGoBack_16 : decode cX4_lastSetMayGoBack 16 = .ok (.astore_n 2, 1) := by decide +kernel
theorem dX4_lastSetMayGoBack_17 : decode cX4_lastSetMayGoBack 17 = .ok (.aload_n 2, 1) := by decide +kernel
theorem dX4_lastSetMayGoBack_18 : decode cX4_lastSetMayGoBack 18 = .ok (.invokevirtual 152, 3) := by decide +kernel
theorem dX4_lastSetMayGoBack_21 : decode cX4_lastSetMayGoBack 21 = .ok (.ifCond .eq 22, 3) := by decide +kernel
theorem dX4_lastSetMayGoBack_24 : decode cX4_lastSetMayGoBack 24 = .ok (.aload_n 2, 1) := by decide +kernel
theorem dX4_lastSetMayGoBack_25 : decode cX4_lastSetMayGoBack 25 = .ok (.invokevirtual 108, 3) := by decide +kernel
theorem dX4_lastSetMayGoBack_28 : decode cX4_lastSetMayGoBack 28 = .ok (.ifCond .ne 13, 3) := by decide +kernel
theorem dX4_lastSetMayGoBack_31 : decode cX4_lastSetMayGoBack 31 = .ok (.aload_n 2, 1) := by decide +kernel
theorem dX4_lastSetMayGoBack_32 : decode cX4_lastSetMayGoBack 32 = .ok (.getfield 54, 3) := by decide +kernel
theorem dX4_lastSetMayGoBack_35 : decode cX4_lastSetMayGoBack 35 = .ok (.getfield 111, 3) := by decide +kernel
theorem dX4_lastSetMayGoBack_38 : decode cX4_lastSetMayGoBack 38 = .ok (.ifCond .eq 5, 3) := by decide +kernel
theorem dX4_lastSetMayGoBack_41 : decode cX4_lastSetMayGoBack 41 = .ok (.iconst 0, 1) := by decide +kernel
theorem dX4_lastSetMayGoBack_42 : decode cX4_lastSetMayGoBack 42 = .ok (.ireturn, 1) := by decide +kernel
theorem dX4_lastSetMayGoBack_43 : decode cX4_lastSetMayGoBack 43 = .ok (.iinc 1 1, 3) := by decide +kernel
theorem dX4_lastSetMayGoBack_46 : decode cX4_lastSetMayGoBack 46 = .ok (.goto (-44), 3) := by decide +kernel
theorem dX4_lastSetMayGoBack_49 : decode cX4_lastSetMayGoBack 49 = .ok (.iconst 1, 1) := by decide +kernel
theorem dX4_lastSetMayGoBack_50 : decode cX4_lastSetMayGoBack 50 = .ok (.ireturn, 1) := by decide +kernel
set_option maxRecDepth 20000 in
theorem ggX5_init_X5_root : GoodIn wsX5_init wsX5_root := goodIn_ca (goodIn_r _ [38, 29, 39, 40, 41, 37, 42, 30, 43, 44, 45, 46, 47, 48, 49, 50, 51, 52, 53, 54, 55, 56, 57, 58, 59, 60, 61, 62, 63, 64, 65, 66, 67, 68, 69, 70, 71, 72, 73, 74, 75, 76, 77, 78, 79] (by decide +kernel) (by decide +kernel)) (goodIn_sub (fun _ h => List.mem_cons_of_mem _ (List.mem_append_right _ h)) (by decide +kernel))
set_option maxRecDepth 20000 in
theorem gX5_init_X5_root : GoodIn wsX5_init (wsV RX5 95 RX5 yX5_root wsX5_root) := goodIn_app (goodIn_of _ (by decide +kernel)) ggX5_init_X5_root
theorem dX5_init_0 : decode cX5_init 0 = .ok (.aload_n 0, 1) := by decide +kernel
theorem dX5_init_1 : decode cX5_init 1 = .ok (.invokespecial 1, 3) := by decide +kernel
theorem dX5_init_4 : decode cX5_init 4 = .ok (.aload_n 0, 1) := by decide +kernel
theorem dX5_init_5 : decode cX5_init 5 = .ok (.bipush 9, 2) := by decide +kernel
theorem dX5_init_7 : decode cX5_init 7 = .ok (.newarray .int, 2) := by decide +kernel
theorem dX5_init_9 : decode cX5_init 9 = .ok (.putfield 7, 3) := by decide +kernel
theorem dX5_init_12 : decode cX5_init 12 = .ok (.aload_n 0, 1) := by decide +kernel
theorem dX5_init_13 : decode cX5_init 13 = .ok (.bipush 9, 2) := by decide +kernel
theorem dX5_init_15 : decode cX5_init 15 = .ok (.newarray .int, 2) := by decide +kernel
theorem dX5_init_17 : decode cX5_init 17 = .ok (.putfield 13, 3) := by decide +kernel
theorem dX5_init_20 : decode cX5_init 20 = .ok (.aload_n 0, 1) := by decide +kernel
theorem dX5_init_21 : decode cX5_init 21 = .ok (.bipush 9, 2) := by decide +kernel
theorem dX5_init_23 : decode cX5_init 23 = .ok (.newarray .int, 2) := by decide +kernel
theorem dX5_init_25 : decode cX5_init 25 = .ok (.putfield 16, 3) := by decide +kernel
theorem dX5_init_28 : decode cX5_init 28 = .ok (.aload_n 0, 1) := by decide +kernel
theorem dX5_init_29 : decode cX5_init 29 = .ok (.bipush 9, 2) := by decide +kernel
theorem dX5_init_31 : decode cX5_init 31 = .ok (.newarray .int, 2) := by decide +kernel
theorem dX5_init_33 : decode cX5_init 33 = .ok (.putfield 19, 3) := by decide +kernel
theorem dX5_init_36 : decode cX5_init 36 = .ok (.aload_n 0, 1) := by decide +kernel
theorem dX5_init_37 : decode cX5_init 37 = .ok (.bipush 9, 2) := by decide +kernel
theorem dX5_init_39 : decode cX5_init 39 = .ok (.newarray .boolean, 2) := by decide +kernel
theorem dX5_init_41 : decode cX5_init 41 = .ok (.putfield 22, 3) := by decide +kernel
theorem dX5_init_44 : decode cX5_init 44 = .ok (.aload_n 0, 1) := by decide +kernel
theorem dX5_init_45 : decode cX5_init 45 = .ok (.bipush 9, 2) := by decide +kernel
theorem dX5_init_47 : decode cX5_init 47 = .ok (.newarray .boolean, 2) := by decide +kernel
theorem dX5_init_49 : decode cX5_init 49 = .ok (.putfield 26, 3) := by decide +kernel
theorem dX5_init_52 : decode cX5_init 52 = .ok (.aload_n 0, 1) := by decide +kernel
theorem dX5_init_53 : decode cX5_init 53 = .ok (.bipush 9, 2) := by decide +kernel
theorem dX5_init_55 : decode cX5_init 55 = .ok (.newarray .int, 2) := by decide +kernel
theorem dX5_init_57 : decode cX5_init 57 = .ok (.putfield 29, 3) := by decide +kernel
theorem dX5_init_60 : decode cX5_init 60 = .ok (.aload_n 0, 1) := by decide +kernel
theorem dX5_init_61 : decode cX5_init 61 = .ok (.bipush 9, 2) := by decide +kernel
theorem dX5_init_63 : decode cX5_init 63 = .ok (.newarray .int, 2) := by decide +kernel
theorem dX5_init_65 : decode cX5_init 65 = .ok (.putfield 32, 3) := by decide +kernel
theorem dX5_init_68 : decode cX5_init 68 = .ok (.aload_n 0, 1) := by decide +kernel
theorem dX5_init_69 : decode cX5_init 69 = .ok (.bipush 18, 2) := by decide +kernel
theorem dX5_init_71 : decode cX5_init 71 = .ok (.newarray .int, 2) := by decide +kernel
theorem dX5_init_73 : decode cX5_init 73 = .ok (.putfield 35, 3) := by decide +kernel
theorem dX5_init_76 : decode cX5_init 76 = .ok (.aload_n 0, 1) := by decide +kernel
theorem dX5_init_77 : decode cX5_init 77 = .ok (.sipush 4608, 3) := by decide +kernel
theorem dX5_init_80 : decode cX5_init 80 = .ok (.newarray .int, 2) := by decide +kernel
theorem dX5_init_82 : decode cX5_init 82 = .ok (.putfield 38, 3) := by decide +kernel
theorem dX5_init_85 : decode cX5_init 85 = .ok (.aload_n 0, 1) := by decide +kernel
theorem dX5_init_86 : decode cX5_init 86 = .ok (.bipush 61, 2) := by decide +kernel
theorem dX5_init_88 : decode cX5_init 88 = .ok (.newarray .int, 2) := by decide +kernel
theorem dX5_init_90 : decode cX5_init 90 = .ok (.putfield 41, 3) := by decide +kernel
theorem dX5_init_93 : decode cX5_init 93 = .ok (.aload_n 0, 1) := by decide +kernel
theorem dX5_init_94 : decode cX5_init 94 = .ok (.bipush 61, 2) := by decide +kernel
theorem dX5_init_96 : decode cX5_init 96 = .ok (.newarray .int, 2) := by decide +kernel
theorem dX5_init_98 : decode cX5_init 98 = .ok (.putfield 44, 3) := by decide +kernel
theorem dX5_init_101 : decode cX5_init 101 = .ok (.aload_n 0, 1) := by decide +kernel
theorem dX5_init_102 : decode cX5_init 102 = .ok (.bipush 61, 2) := by decide +kernel
theorem dX5_init_104 : decode cX5_init 104 = .ok (.newarray .int, 2) := by decide +kernel
theorem dX5_init_106 : decode cX5_init 106 = .ok (.putfield 47, 3) := by decide +kernel
theorem dX5_init_109 : decode cX5_init 109 = .ok (.aload_n 0, 1) := by decide +kernel
theorem dX5_init_110 : decode cX5_init 110 = .ok (.bipush 61, 2) := by decide +kernel
theorem dX5_init_112 : decode cX5_init 112 = .ok (.newarray .int, 2) := by decide +kernel
theorem dX5_init_114 : decode cX5_init 114 = .ok (.putfield 50, 3) := by decide +kernel
theorem dX5_init_117 : decode cX5_init 117 = .ok (.aload_n 0, 1) := by decide +kernel
theorem dX5_init_118 : decode cX5_init 118 = .ok (.bipush 61, 2) := by decide +kernel
theorem dX5_init_120 : decode cX5_init 120 = .ok (.newarray .int, 2) := by decide +kernel
theorem dX5_init_122 : decode cX5_init 122 = .ok (.putfield 53, 3) := by decide +kernel
theorem dX5_init_125 : decode cX5_init 125 = .ok (.aload_n 0, 1) := by decide +kernel
theorem dX5_init_126 : decode cX5_init 126 = .ok (.bipush 61, 2) := by decide +kernel
theorem dX5_init_128 : decode cX5_init 128 = .ok (.newarray .int, 2) := by decide +kernel
theorem dX5_init_130 : decode cX5_init 130 = .ok (.putfield 56, 3) := by decide +kernel
theorem dX5_init_133 : decode cX5_init 133 = .ok (.aload_n 0, 1) := by decide +kernel
theorem dX5_init_134 : decode cX5_init 134 = .ok (.bipush 61, 2) := by decide +kernel
theorem dX5_init_136 : decode cX5_init 136 = .ok (.newarray .int, 2) := by decide +kernel
theorem dX5_init_138 : decode cX5_init 138 = .ok (.putfield 59, 3) := by decide +kernel
theorem dX5_init_141 : decode cX5_init 141 = .ok (.aload_n 0, 1) := by decide +kernel
theorem dX5_init_142 : decode cX5_init 142 = .ok (.bipush 61, 2) := by decide +kernel
theorem dX5_init_144 : decode cX5_init 144 = .ok (.newarray .boolean, 2) := by decide +kernel
theorem dX5_init_146 : decode cX5_init 146 = .ok (.putfield 62, 3) := by decide +kernel
theorem dX5_init_149 : decode cX5_init 149 = .ok (.aload_n 0, 1) := by decide +kernel
theorem dX5_init_150 : decode cX5_init 150 = .ok (.sipush 15616, 3) := by decide +kernel
theorem dX5_init_153 : decode cX5_init 153 = .ok (.newarray .int, 2) := by decide +kernel
theorem dX5_init_155 : decode cX5_init 155 = .ok (.putfield 65, 3) := by decide +kernel
theorem dX5_init_158 : decode cX5_init 158 = .ok (.aload_n 0, 1) := by decide +kernel
theorem dX5_init_159 : decode cX5_init 159 = .ok (.sipush 256, 3) := by decide +kernel
theorem dX5_init_162 : decode cX5_init 162 = .ok (.newarray .int, 2) := by decide +kernel
theorem dX5_init_164 : decode cX5_init 164 = .ok (.putfield 68, 3) := by decide +kernel
theorem dX5_init_167 : decode cX5_init 167 = .ok (.aload_n 0, 1) := by decide +kernel
theorem dX5_init_168 : decode cX5_init 168 = .ok (.bipush 32, 2) := by decide +kernel
theorem dX5_init_170 : decode cX5_init 170 = .ok (.newarray .int, 2) := by decide +kernel
theorem dX5_init_172 : decode cX5_init 172 = .ok (.putfield 71, 3) := by decide +kernel
theorem dX5_init_175 : decode cX5_init 175 = .ok (.aload_n 0, 1) := by decide +kernel
theorem dX5_init_176 : decode cX5_init 176 = .ok (.bipush 8, 2) := by decide +kernel
theorem dX5_init_178 : decode cX5_init 178 = .ok (.newarray .int, 2) := by decide +kernel
theorem dX5_init_180 : decode cX5_init 180 = .ok (.putfield 74, 3) := by decide +kernel
theorem dX5_init_183 : decode cX5_init 183 = .ok (.aload_n 0, 1) := by decide +kernel
theorem dX5_init_184 : decode cX5_init 184 = .ok (.bipush 64, 2) := by decide +kernel
theorem dX5_init_186 : decode cX5_init 186 = .ok (.newarray .int, 2) := by decide +kernel
theorem dX5_init_188 : decode cX5_init 188 = .ok (.putfield 77, 3) := by decide +kernel
theorem dX5_init_191 : decode cX5_init 191 = .ok (.aload_n 0, 1) := by decide +kernel
theorem dX5_init_192 : decode cX5_init 192 = .ok (.bipush 12, 2) := by decide +kernel
theorem dX5_init_194 : decode cX5_init 194 = .ok (.newarray .int, 2) := by decide +kernel
theorem dX5_init_196 : decode cX5_init 196 = .ok (.putfield 80, 3) := by decide +kernel
theorem dX5_init_199 : decode cX5_init 199 = .ok (.aload_n 0, 1) := by decide +kernel
theorem dX5_init_200 : decode cX5_init 200 = .ok (.bipush 12, 2) := by decide +kernel
theorem dX5_init_202 : decode cX5_init 202 = .ok (.newarray .int, 2) := by decide +kernel
theorem dX5_init_204 : decode cX5_init 204 = .ok (.putfield 83, 3) := by decide +kernel
theorem dX5_init_207 : decode cX5_init 207 = .ok (.aload_n 0, 1) := by decide +kernel
theorem dX5_init_208 : decode cX5_init 208 = .ok (.bipush 8, 2) := by decide +kernel
theorem dX5_init_210 : decode cX5_init 210 = .ok (.newarray .int, 2) := by decide +kernel
theorem dX5_init_212 : decode cX5_init 212 = .ok (.putfield 86, 3) := by decide +kernel
theorem dX5_init_215 : decode cX5_init 215 = .ok (.aload_n 0, 1) := by decide +kernel
theorem dX5_init_216 : decode cX5_init 216 = .ok (.bipush 64, 2) := by decide +kernel
theorem dX5_init_218 : decode cX5_init 218 = .ok (.newarray .int, 2) := by decide +kernel
theorem dX5_init_220 : decode cX5_init 220 = .ok (.putfield 89, 3) := by decide +kernel
theorem dX5_init_223 : decode cX5_init 223 = .ok (.aload_n 0, 1) := by decide +kernel
theorem dX5_init_224 : decode cX5_init 224 = .ok (.bipush 8, 2) := by decide +kernel
theorem dX5_init_226 : decode cX5_init 226 = .ok (.newarray .int, 2) := by decide +kernel
theorem dX5_init_228 : decode cX5_init 228 = .ok (.putfield 92, 3) := by decide +kernel
theorem dX5_init_231 : decode cX5_init 231 = .ok (.iconst 0, 1) := by decide +kernel
theorem dX5_init_232 : decode cX5_init 232 = .ok (.istore_n 1, 1) := by decide +kernel
theorem dX5_init_233 : decode cX5_init 233 = .ok (.iconst 2, 1) := by decide +kernel
theorem dX5_init_234 : decode cX5_init 234 = .ok (.istore_n 2, 1) := by decide +kernel
theorem dX5_init_235 : decode cX5_init 235 = .ok (.iload_n 1, 1) := by decide +kernel
theorem dX5_init_236 : decode cX5_init 236 = .ok (.bipush 64, 2) := by decide +kernel
theorem dX5_init_238 : decode cX5_init 238 = .ok (.if_icmp .ge 85, 3) := by decide +kernel
theorem dX5_init_241 : decode cX5_init 241 = .ok (.iconst 1, 1) := by decide +kernel
theorem dX5_init_242 : decode cX5_init 242 = .ok (.istore_n 3, 1) := by decide +kernel
theorem dX5_init_243 : decode cX5_init 243 = .ok (.iconst 2, 1) := by decide +kernel
theorem dX5_init_244 : decode cX5_init 244 = .ok (.istore 4, 2) := by decide +kernel
theorem dX5_init_246 : decode cX5_init 246 = .ok (.iload 4, 2) := by decide +kernel
theorem dX5_init_248 : decode cX5_init 248 = .ok (.iload_n 2, 1) := by decide +kernel
theorem dX5_init_249 : decode cX5_init 249 = .ok (.if_icmp .ge 26, 3) := by decide +kernel
theorem dX5_init_252 : decode cX5_init 252 = .ok (.iload_n 3, 1) := by decide +kernel
theorem dX5_init_253 : decode cX5_init 253 = .ok (.ifCond .eq 14, 3) := by decide +kernel
theorem dX5_init_256 : decode cX5_init 256 = .ok (.iload_n 2, 1) := by decide +kernel
theorem dX5_init_257 : decode cX5_init 257 = .ok (.iload 4, 2) := by decide +kernel
theorem dX5_init_259 : decode cX5_init 259 = .ok (.irem, 1) := by decide +kernel
theorem dX5_init_260 : decode cX5_init 260 = .ok (.ifCond .le 7, 3) := by decide +kernel
theorem dX5_init_263 : decode cX5_init 263 = .ok (.iconst 1, 1) := by decide +kernel
theorem dX5_init_264 : decode cX5_init 264 = .ok (.goto 4, 3) := by decide +kernel
theorem dX5_init_267 : decode cX5_init 267 = .ok (.iconst 0, 1) := by decide +kernel
