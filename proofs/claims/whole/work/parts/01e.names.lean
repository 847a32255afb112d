theorem dX4_firstOf_14 : decode cX4_firstOf 14 = .ok (.iload_n 1, 1) := by decide +kernel
theorem dX4_firstOf_15 : decode cX4_firstOf 15 = .ok (.aload_n 0, 1) := by decide +kernel
theorem dX4_firstOf_16 : decode cX4_firstOf 16 = .ok (.getfield 32, 3) := by decide +kernel
theorem dX4_firstOf_19 : decode cX4_firstOf 19 = .ok (.iadd, 1) := by decide +kernel
theorem dX4_firstOf_20 : decode cX4_firstOf 20 = .ok (.iconst 1, 1) := by decide +kernel
theorem dX4_firstOf_21 : decode cX4_firstOf 21 = .ok (.isub, 1) := by decide +kernel
theorem dX4_firstOf_22 : decode cX4_firstOf 22 = .ok (.aload_n 0, 1) := by decide +kernel
theorem dX4_firstOf_23 : decode cX4_firstOf 23 = .ok (.getfield 32, 3) := by decide +kernel
theorem dX4_firstOf_26 : decode cX4_firstOf 26 = .ok (.idiv, 1) := by decide +kernel
theorem dX4_firstOf_27 : decode cX4_firstOf 27 = .ok (.istore_n 3, 1) := by decide +kernel
theorem dX4_firstOf_28 : decode cX4_firstOf 28 = .ok (.iload_n 3, 1) := by decide +kernel
theorem dX4_firstOf_29 : decode cX4_firstOf 29 = .ok (.iconst 2, 1) := by decide +kernel
theorem dX4_firstOf_30 : decode cX4_firstOf 30 = .ok (.irem, 1) := by decide +kernel
theorem dX4_firstOf_31 : decode cX4_firstOf 31 = .ok (.iload_n 2, 1) := by decide +kernel
theorem dX4_firstOf_32 : decode cX4_firstOf 32 = .ok (.iconst 2, 1) := by decide +kernel
theorem dX4_firstOf_33 : decode cX4_firstOf 33 = .ok (.irem, 1) := by decide +kernel
theorem dX4_firstOf_34 : decode cX4_firstOf 34 = .ok (.if_icmp .ne 7, 3) := by decide +kernel
theorem dX4_firstOf_37 : decode cX4_firstOf 37 = .ok (.iload_n 3, 1) := by decide +kernel
theorem dX4_firstOf_38 : decode cX4_firstOf 38 = .ok (.goto 6, 3) := by decide +kernel
theorem dX4_firstOf_41 : decode cX4_firstOf 41 = .ok (.iload_n 3, 1) := by decide +kernel
theorem dX4_firstOf_42 : decode cX4_firstOf 42 = .ok (.iconst 1, 1) := by decide +kernel
theorem dX4_firstOf_43 : decode cX4_firstOf 43 = .ok (.iadd, 1) := by decide +kernel
theorem dX4_firstOf_44 : decode cX4_firstOf 44 = .ok (.ireturn, 1) := by decide +kernel
set_option maxRecDepth 20000 in
theorem ggX4_trigger_X4_firstOf : GoodIn wsX4_trigger wsX4_firstOf := goodIn_r _ [7, 2, 8, 9, 10, 11, 12, 13, 14, 15, 16, 17, 18, 19, 20, 21, 22, 23, 24, 25, 26, 27, 28, 29, 30, 31, 32, 33, 34, 35, 36, 37, 38, 39, 40, 41, 42, 43, 44, 45, 46] (by decide +kernel) (by decide +kernel)
set_option maxRecDepth 20000 in
theorem gX4_trigger_X4_firstOf : GoodIn wsX4_trigger (wsV RX4 148 RX4 yX4_firstOf wsX4_firstOf) := goodIn_app (goodIn_of _ (by decide +kernel)) ggX4_trigger_X4_firstOf
theorem dX4_trigger_0 : decode cX4_trigger 0 = .ok (.iload_n 1, 1) := by decide +kernel
theorem dX4_trigger_1 : decode cX4_trigger 1 = .ok (.ldc 96, 2) := by decide +kernel
theorem dX4_trigger_3 : decode cX4_trigger 3 = .ok (.if_icmp .ne 6, 3) := by decide +kernel
theorem dX4_trigger_6 : decode cX4_trigger 6 = .ok (.ldc 96, 2) := by decide +kernel
theorem dX4_trigger_8 : decode cX4_trigger 8 = .ok (.ireturn, 1) := by decide +kernel
theorem dX4_trigger_9 : decode cX4_trigger 9 = .ok (.aload_n 0, 1) := by decide +kernel
theorem dX4_trigger_10 : decode cX4_trigger 10 = .ok (.iload_n 1, 1) := by decide +kernel
theorem dX4_trigger_11 : decode cX4_trigger 11 = .ok (.iload_n 3, 1) := by decide +kernel
theorem dX4_trigger_12 : decode cX4_trigger 12 = .ok (.invokevirtual 148, 3) := by decide +kernel
theorem dX4_trigger_15 : decode cX4_trigger 15 = .ok (.istore 4, 2) := by decide +kernel
theorem dX4_trigger_17 : decode cX4_trigger 17 = .ok (.iload 4, 2) := by decide +kernel
theorem dX4_trigger_19 : decode cX4_trigger 19 = .ok (.aload_n 0, 1) := by decide +kernel
theorem dX4_trigger_20 : decode cX4_trigger 20 = .ok (.getfield 32, 3) := by decide +kernel
theorem dX4_trigger_23 : decode cX4_trigger 23 = .ok (.imul, 1) := by decide +kernel
theorem dX4_trigger_24 : decode cX4_trigger 24 = .ok (.iload_n 2, 1) := by decide +kernel
theorem dX4_trigger_25 : decode cX4_trigger 25 = .ok (.if_icmp .gt 8, 3) := by decide +kernel
theorem dX4_trigger_28 : decode cX4_trigger 28 = .ok (.iload 4, 2) := by decide +kernel
theorem dX4_trigger_30 : decode cX4_trigger 30 = .ok (.goto 5, 3) := by decide +kernel
theorem dX4_trigger_33 : decode cX4_trigger 33 = .ok (.ldc 96, 2) := by decide +kernel
theorem dX4_trigger_35 : decode cX4_trigger 35 = .ok (.ireturn, 1) := by decide +kernel
set_option maxRecDepth 20000 in
theorem ggX4_upOf_X4_off : GoodIn wsX4_upOf wsX4_off := goodIn_r _ [6, 1, 7, 8, 9, 10, 11, 5, 12, 13, 14, 15, 16, 17, 18, 19, 20, 21, 22, 23, 24, 25, 35, 36, 37, 38, 39, 40, 41, 42, 43, 44, 45, 46, 47, 48, 49, 50, 51, 52, 53, 54, 55, 56, 57, 58, 59, 60, 61, 62, 63, 64, 65, 66, 67, 68, 69, 70, 71, 72, 73] (by decide +kernel) (by decide +kernel)
set_option maxRecDepth 20000 in
theorem gX4_upOf_X4_off : GoodIn wsX4_upOf (wsV RX4 151 RX4 yX4_off wsX4_off) := goodIn_app (goodIn_of _ (by decide +kernel)) ggX4_upOf_X4_off
set_option maxRecDepth 20000 in
theorem ggX4_upOf_X4_trigger : GoodIn wsX4_upOf wsX4_trigger := goodIn_r _ [29, 1, 30, 31, 32, 33, 5, 34, 35, 36, 37, 38, 39, 40, 41, 42, 43, 44, 45, 46, 47, 48, 49, 50, 51, 52, 53, 54, 55, 56, 57, 58, 59, 60, 61, 62, 63, 64, 65, 66, 67, 68, 69, 70, 71, 72, 73] (by decide +kernel) (by decide +kernel)
set_option maxRecDepth 20000 in
theorem gX4_upOf_X4_trigger : GoodIn wsX4_upOf (wsV RX4 155 RX4 yX4_trigger wsX4_trigger) := goodIn_app (goodIn_of _ (by decide +kernel)) ggX4_upOf_X4_trigger
theorem dX4_upOf_0 : decode cX4_upOf 0 = .ok (.aload_n 0, 1) := by decide +kernel
theorem dX4_upOf_1 : decode cX4_upOf 1 = .ok (.aload_n 0, 1) := by decide +kernel
theorem dX4_upOf_2 : decode cX4_upOf 2 = .ok (.iload_n 1, 1) := by decide +kernel
theorem dX4_upOf_3 : decode cX4_upOf 3 = .ok (.iconst 0, 1) := by decide +kernel
theorem dX4_upOf_4 : decode cX4_upOf 4 = .ok (.invokevirtual 151, 3) := by decide +kernel
theorem dX4_upOf_7 : decode cX4_upOf 7 = .ok (.aload_n 0, 1) := by decide +kernel
theorem dX4_upOf_8 : decode cX4_upOf 8 = .ok (.iload_n 1, 1) := by decide +kernel
theorem dX4_upOf_9 : decode cX4_upOf 9 = .ok (.iconst 1, 1) := by decide +kernel
theorem dX4_upOf_10 : decode cX4_upOf 10 = .ok (.invokevirtual 151, 3) := by decide +kernel
theorem dX4_upOf_13 : decode cX4_upOf 13 = .ok (.iconst 1, 1) := by decide +kernel
theorem dX4_upOf_14 : decode cX4_upOf 14 = .ok (.invokevirtual 155, 3) := by decide +kernel
theorem dX4_upOf_17 : decode cX4_upOf 17 = .ok (.istore_n 2, 1) := by decide +kernel
theorem dX4_upOf_18 : decode cX4_upOf 18 = .ok (.iload_n 2, 1) := by decide +kernel
theorem dX4_upOf_19 : decode cX4_upOf 19 = .ok (.ldc 96, 2) := by decide +kernel
theorem dX4_upOf_21 : decode cX4_upOf 21 = .ok (.if_icmp .ne 8, 3) := by decide +kernel
theorem dX4_upOf_24 : decode cX4_upOf 24 = .ok (.ldc 96, 2) := by decide +kernel
theorem dX4_upOf_26 : decode cX4_upOf 26 = .ok (.goto 8, 3) := by decide +kernel
theorem dX4_upOf_29 : decode cX4_upOf 29 = .ok (.iload_n 2, 1) := by decide +kernel
theorem dX4_upOf_30 : decode cX4_upOf 30 = .ok (.iconst 1, 1) := by decide +kernel
theorem dX4_upOf_31 : decode cX4_upOf 31 = .ok (.isub, 1) := by decide +kernel
theorem dX4_upOf_32 : decode cX4_upOf 32 = .ok (.iconst 2, 1) := by decide +kernel
theorem dX4_upOf_33 : decode cX4_upOf 33 = .ok (.idiv, 1) := by decide +kernel
theorem dX4_upOf_34 : decode cX4_upOf 34 = .ok (.ireturn, 1) := by decide +kernel
set_option maxRecDepth 20000 in
theorem ggX4_downOf_X4_off : GoodIn wsX4_downOf wsX4_off := goodIn_r _ [6, 1, 7, 8, 9, 10, 11, 5, 12, 13, 14, 15, 16, 17, 18, 19, 20, 21, 22, 23, 24, 25, 35, 36, 37, 38, 39, 40, 41, 42, 43, 44, 45, 46, 47, 48, 49, 50, 51, 52, 53, 54, 55, 56, 57, 58, 59, 60, 61, 62, 63, 64, 65, 66, 67, 68, 69, 70, 71, 72, 73] (by decide +kernel) (by decide +kernel)
set_option maxRecDepth 20000 in
theorem gX4_downOf_X4_off : GoodIn wsX4_downOf (wsV RX4 151 RX4 yX4_off wsX4_off) := goodIn_app (goodIn_of _ (by decide +kernel)) ggX4_downOf_X4_off
set_option maxRecDepth 20000 in
theorem ggX4_downOf_X4_trigger : GoodIn wsX4_downOf wsX4_trigger := goodIn_r _ [29, 1, 30, 31, 32, 33, 5, 34, 35, 36, 37, 38, 39, 40, 41, 42, 43, 44, 45, 46, 47, 48, 49, 50, 51, 52, 53, 54, 55, 56, 57, 58, 59, 60, 61, 62, 63, 64, 65, 66, 67, 68, 69, 70, 71, 72, 73] (by decide +kernel) (by decide +kernel)
set_option maxRecDepth 20000 in
theorem gX4_downOf_X4_trigger : GoodIn wsX4_downOf (wsV RX4 155 RX4 yX4_trigger wsX4_trigger) := goodIn_app (goodIn_of _ (by decide +kernel)) ggX4_downOf_X4_trigger
theorem dX4_downOf_0 : decode cX4_downOf 0 = .ok (.aload_n 0, 1) := by decide +kernel
theorem dX4_downOf_1 : decode cX4_downOf 1 = .ok (.aload_n 0, 1) := by decide +kernel
theorem dX4_downOf_2 : decode cX4_downOf 2 = .ok (.iload_n 1, 1) := by decide +kernel
theorem dX4_downOf_3 : decode cX4_downOf 3 = .ok (.iconst 1, 1) := by decide +kernel
theorem dX4_downOf_4 : decode cX4_downOf 4 = .ok (.invokevirtual 151, 3) := by decide +kernel
theorem dX4_downOf_7 : decode cX4_downOf 7 = .ok (.aload_n 0, 1) := by decide +kernel
theorem dX4_downOf_8 : decode cX4_downOf 8 = .ok (.iload_n 1, 1) := by decide +kernel
theorem dX4_downOf_9 : decode cX4_downOf 9 = .ok (.iconst 0, 1) := by decide +kernel
theorem dX4_downOf_10 : decode cX4_downOf 10 = .ok (.invokevirtual 151, 3) := by decide +kernel
theorem dX4_downOf_13 : decode cX4_downOf 13 = .ok (.iconst 2, 1) := by decide +kernel
theorem dX4_downOf_14 : decode cX4_downOf 14 = .ok (.invokevirtual 155, 3) := by decide +kernel
theorem dX4_downOf_17 : decode cX4_downOf 17 = .ok (.istore_n 2, 1) := by decide +kernel
theorem dX4_downOf_18 : decode cX4_downOf 18 = .ok (.iload_n 2, 1) := by decide +kernel
theorem dX4_downOf_19 : decode cX4_downOf 19 = .ok (.ldc 96, 2) := by decide +kernel
theorem dX4_downOf_21 : decode cX4_downOf 21 = .ok (.if_icmp .ne 8, 3) := by decide +kernel
theorem dX4_downOf_24 : decode cX4_downOf 24 = .ok (.ldc 96, 2) := by decide +kernel
theorem dX4_downOf_26 : decode cX4_downOf 26 = .ok (.goto 6, 3) := by decide +kernel
theorem dX4_downOf_29 : decode cX4_downOf 29 = .ok (.iload_n 2, 1) := by decide +kernel
theorem dX4_downOf_30 : decode cX4_downOf 30 = .ok (.iconst 2, 1) := by decide +kernel
theorem dX4_downOf_31 : decode cX4_downOf 31 = .ok (.idiv, 1) := by decide +kernel
theorem dX4_downOf_32 : decode cX4_downOf 32 = .ok (.ireturn, 1) := by decide +kernel
set_option maxRecDepth 20000 in
theorem ggX4_tick_X4_upOf : GoodIn wsX4_tick wsX4_upOf := goodIn_r _ [13, 3, 14, 15, 16, 12, 17, 1, 6, 18, 19, 20, 21, 22, 23, 24, 25, 26, 27, 28, 29, 30, 31, 32, 33, 34, 35, 36, 37, 38, 39, 40, 41, 42, 43, 48, 49, 50, 51, 52, 53, 54, 55, 56, 57, 58, 59, 60, 61, 62, 63, 64, 65, 66, 67, 68, 69, 70, 71, 72, 73, 74, 75, 76, 77, 78, 79, 80, 81, 82, 83, 84, 85, 86] (by decide +kernel) (by decide +kernel)
set_option maxRecDepth 20000 in
theorem gX4_tick_X4_upOf : GoodIn wsX4_tick (wsV RX4 159 RX4 yX4_upOf wsX4_upOf) := goodIn_app (goodIn_of _ (by decide +kernel)) ggX4_tick_X4_upOf
set_option maxRecDepth 20000 in
theorem ggX4_tick_X4_downOf : GoodIn wsX4_tick wsX4_downOf := goodIn_r _ [47, 3, 14, 15, 16, 12, 17, 1, 6, 18, 19, 20, 21, 22, 23, 24, 25, 26, 27, 28, 29, 30, 31, 32, 33, 34, 35, 36, 37, 38, 39, 40, 41, 42, 43, 48, 49, 50, 51, 52, 53, 54, 55, 56, 57, 58, 59, 60, 61, 62, 63, 64, 65, 66, 67, 68, 69, 70, 71, 72, 73, 74, 75, 76, 77, 78, 79, 80, 81, 82, 83, 84, 85, 86] (by decide +kernel) (by decide +kernel)
set_option maxRecDepth 20000 in
theorem gX4_tick_X4_downOf : GoodIn wsX4_tick (wsV RX4 163 RX4 yX4_downOf wsX4_downOf) := goodIn_app (goodIn_of _ (by decide +kernel)) ggX4_tick_X4_downOf
theorem dX4_tick_0 : decode cX4_tick 0 = .ok (.iconst 0, 1) := by decide +kernel
theorem dX4_tick_1 : decode cX4_tick 1 = .ok (.istore_n 1, 1) := by decide +kernel
theorem dX4_tick_2 : decode cX4_tick 2 = .ok (.iload_n 1, 1) := by decide +kernel
theorem dX4_tick_3 : decode cX4_tick 3 = .ok (.aload_n 0, 1) := by decide +kernel
theorem dX4_tick_4 : decode cX4_tick 4 = .ok (.getfield 112, 3) := by decide +kernel
theorem dX4_tick_7 : decode cX4_tick 7 = .ok (.if_icmp .ge 44, 3) := by decide +kernel
theorem dX4_tick_10 : decode cX4_tick 10 = .ok (.aload_n 0, 1) := by decide +kernel
theorem dX4_tick_11 : decode cX4_tick 11 = .ok (.getfield 42, 3) := by decide +kernel
theorem dX4_tick_14 : decode cX4_tick 14 = .ok (.iload_n 1, 1) := by decide +kernel
theorem dX4_tick_15 : decode cX4_tick 15 = .ok (.aload_n 0, 1) := by decide +kernel
theorem dX4_tick_16 : decode cX4_tick 16 = .ok (.iload_n 1, 1) := by decide +kernel
theorem dX4_tick_17 : decode cX4_tick 17 = .ok (.invokevirtual 159, 3) := by decide +kernel
theorem dX4_tick_20 : decode cX4_tick 20 = .ok (.ldc 96, 2) := by decide +kernel
theorem dX4_tick_22 : decode cX4_tick 22 = .ok (.if_icmp .eq 7, 3) := by decide +kernel
theorem dX4_tick_25 : decode cX4_tick 25 = .ok (.iconst 1, 1) := by decide +kernel
theorem dX4_tick_26 : decode cX4_tick 26 = .ok (.goto 18, 3) := by decide +kernel
theorem dX4_tick_29 : decode cX4_tick 29 = .ok (.aload_n 0, 1) := by decide +kernel
theorem dX4_tick_30 : decode cX4_tick 30 = .ok (.iload_n 1, 1) := by decide +kernel
theorem dX4_tick_31 : decode cX4_tick 31 = .ok (.invokevirtual 163, 3) := by decide +kernel
theorem dX4_tick_34 : decode cX4_tick 34 = .ok (.ldc 96, 2) := by decide +kernel
theorem dX4_tick_36 : decode cX4_tick 36 = .ok (.if_icmp .eq 7, 3) := by decide +kernel
theorem dX4_tick_39 : decode cX4_tick 39 = .ok (.iconst (-1), 1) := by decide +kernel
theorem dX4_tick_40 : decode cX4_tick 40 = .ok (.goto 4, 3) := by decide +kernel
theorem dX4_tick_43 : decode cX4_tick 43 = .ok (.iconst 0, 1) := by decide +kernel
theorem dX4_tick_44 : decode cX4_tick 44 = .ok (.iastore, 1) := by decide +kernel
theorem dX4_tick_45 : decode cX4_tick 45 = .ok (.iinc 1 1, 3) := by decide +kernel
theorem dX4_tick_48 : decode cX4_tick 48 = .ok (.goto (-46), 3) := by decide +kernel
theorem dX4_tick_51 : decode cX4_tick 51 = .ok (.iconst 0, 1) := by decide +kernel
theorem dX4_tick_52 : decode cX4_tick 52 = .ok (.istore_n 1, 1) := by decide +kernel
theorem dX4_tick_53 : decode cX4_tick 53 = .ok (.iload_n 1, 1) := by decide +kernel
theorem dX4_tick_54 : decode cX4_tick 54 = .ok (.aload_n 0, 1) := by decide +kernel
theorem dX4_tick_55 : decode cX4_tick 55 = .ok (.getfield 112, 3) := by decide +kernel
theorem dX4_tick_58 : decode cX4_tick 58 = .ok (.if_icmp .ge 140, 3) := by decide +kernel
theorem dX4_tick_61 : decode cX4_tick 61 = .ok (.aload_n 0, 1) := by decide +kernel
theorem dX4_tick_62 : decode cX4_tick 62 = .ok (.getfield 25, 3) := by decide +kernel
theorem dX4_tick_65 : decode cX4_tick 65 = .ok (.iload_n 1, 1) := by decide +kernel
theorem dX4_tick_66 : decode cX4_tick 66 = .ok (.aload_n 0, 1) := by decide +kernel
theorem dX4_tick_67 : decode cX4_tick 67 = .ok (.getfield 42, 3) := by decide +kernel
theorem dX4_tick_70 : decode cX4_tick 70 = .ok (.iload_n 1, 1) := by decide +kernel
theorem dX4_tick_71 : decode cX4_tick 71 = .ok (.iaload, 1) := by decide +kernel
theorem dX4_tick_72 : decode cX4_tick 72 = .ok (.iconst 1, 1) := by decide +kernel
theorem dX4_tick_73 : decode cX4_tick 73 = .ok (.if_icmp .eq 21, 3) := by decide +kernel
theorem dX4_tick_76 : decode cX4_tick 76 = .ok (.aload_n 0, 1) := by decide +kernel
theorem dX4_tick_77 : decode cX4_tick 77 = .ok (.getfield 42, 3) := by decide +kernel
theorem dX4_tick_80 : decode cX4_tick 80 = .ok (.iload_n 1, 1) := by decide +kernel
theorem dX4_tick_81 : decode cX4_tick 81 = .ok (.iaload, 1) := by decide +kernel
theorem dX4_tick_82 : decode cX4_tick 82 = .ok (.ifCond .ne 16, 3) := by decide +kernel
theorem dX4_tick_85 : decode cX4_tick 85 = .ok (.aload_n 0, 1) := by decide +kernel
theorem dX4_tick_86 : decode cX4_tick 86 = .ok (.getfield 25, 3) := by decide +kernel
theorem dX4_tick_89 : decode cX4_tick 89 = .ok (.iload_n 1, 1) := by decide +kernel
theorem dX4_tick_90 : decode cX4_tick 90 = .ok (.baload, 1) := by decide +kernel
theorem dX4_tick_91 : decode cX4_tick 91 = .ok (.ifCond .eq 7, 3) := by decide +kernel
theorem dX4_tick_94 : decode cX4_tick 94 = .ok (.iconst 1, 1) := by decide +kernel
theorem dX4_tick_95 : decode cX4_tick 95 = .ok (.goto 4, 3) := by decide +kernel
theorem dX4_tick_98 : decode cX4_tick 98 = .ok (.iconst 0, 1) := by decide +kernel
theorem dX4_tick_99 : decode cX4_tick 99 = .ok (.bastore, 1) := by decide +kernel
theorem dX4_tick_100 : decode cX4_tick 100 = .ok (.aload_n 0, 1) := by decide +kernel
theorem dX4_tick_101 : decode cX4_tick 101 = .ok (.getfield 29, 3) := by decide +kernel
theorem dX4_tick_104 : decode cX4_tick 104 = .ok (.iload_n 1, 1) := by decide +kernel
theorem dX4_tick_105 : decode cX4_tick 105 = .ok (.dup2, 1) := by decide +kernel
theorem dX4_tick_106 : decode cX4_tick 106 = .ok (.iaload, 1) := by decide +kernel
theorem dX4_tick_107 : decode cX4_tick 107 = .ok (.aload_n 0, 1) := by decide +kernel
theorem dX4_tick_108 : decode cX4_tick 108 = .ok (.getfield 25, 3) := by decide +kernel
theorem dX4_tick_111 : decode cX4_tick 111 = .ok (.iload_n 1, 1) := by decide +kernel
theorem dX4_tick_112 : decode cX4_tick 112 = .ok (.baload, 1) := by decide +kernel
theorem dX4_tick_113 : decode cX4_tick 113 = .ok (.ifCond .eq 7, 3) := by decide +kernel
theorem dX4_tick_116 : decode cX4_tick 116 = .ok (.iconst 1, 1) := by decide +kernel
theorem dX4_tick_117 : decode cX4_tick 117 = .ok (.goto 4, 3) := by decide +kernel
theorem dX4_tick_120 : decode cX4_tick 120 = .ok (.iconst 0, 1) := by decide +kernel
theorem dX4_tick_121 : decode cX4_tick 121 = .ok (.iadd, 1) := by decide +kernel
theorem dX4_tick_122 : decode cX4_tick 122 = .ok (.iastore, 1) := by decide +kernel
theorem dX4_tick_123 : decode cX4_tick 123 = .ok (.iconst 3, 1) := by decide +kernel
theorem dX4_tick_124 : decode cX4_tick 124 = .ok (.istore_n 2, 1) := by decide +kernel
theorem dX4_tick_125 : decode cX4_tick 125 = .ok (.iload_n 2, 1) := by decide +kernel
theorem dX4_tick_126 : decode cX4_tick 126 = .ok (.ifCond .le 31, 3) := by decide +kernel
theorem dX4_tick_129 : decode cX4_tick 129 = .ok (.aload_n 0, 1) := by decide +kernel
theorem dX4_tick_130 : decode cX4_tick 130 = .ok (.getfield 22, 3) := by decide +kernel
theorem dX4_tick_133 : decode cX4_tick 133 = .ok (.iconst 4, 1) := by decide +kernel
theorem dX4_tick_134 : decode cX4_tick 134 = .ok (.iload_n 1, 1) := by decide +kernel
theorem dX4_tick_135 : decode cX4_tick 135 = .ok (.imul, 1) := by decide +kernel
theorem dX4_tick_136 : decode cX4_tick 136 = .ok (.iload_n 2, 1) := by decide +kernel
theorem dX4_tick_137 : decode cX4_tick 137 = .ok (.iadd, 1) := by decide +kernel
theorem dX4_tick_138 : decode cX4_tick 138 = .ok (.aload_n 0, 1) := by decide +kernel
theorem dX4_tick_139 : decode cX4_tick 139 = .ok (.getfield 22, 3) := by decide +kernel
theorem dX4_tick_142 : decode cX4_tick 142 = .ok (.iconst 4, 1) := by decide +kernel
theorem dX4_tick_143 : decode cX4_tick 143 = .ok (.iload_n 1, 1) := by decide +kernel
theorem dX4_tick_144 : decode cX4_tick 144 = .ok (.imul, 1) := by decide +kernel
theorem dX4_tick_145 : decode cX4_tick 145 = .ok (.iload_n 2, 1) := by decide +kernel
theorem dX4_tick_146 : decode cX4_tick 146 = .ok (.iadd, 1) := by decide +kernel
theorem dX4_tick_147 : decode cX4_tick 147 = .ok (.iconst 1, 1) := by decide +kernel
theorem dX4_tick_148 : decode cX4_tick 148 = .ok (.isub, 1) := by decide +kernel
theorem dX4_tick_149 : decode cX4_tick 149 = .ok (.iaload, 1) := by decide +kernel
theorem dX4_tick_150 : decode cX4_tick 150 = .ok (.iastore, 1) := by decide +kernel
theorem dX4_tick_151 : decode cX4_tick 151 = .ok (.iinc 2 (-1), 3) := by decide +kernel
theorem dX4_tick_154 : decode cX4_tick 154 = .ok (.goto (-29), 3) := by decide +kernel
theorem dX4_tick_157 : decode cX4_tick 157 = .ok (.aload_n 0, 1) := by decide +kernel
theorem dX4_tick_158 : decode cX4_tick 158 = .ok (.getfield 22, 3) := by decide +kernel
theorem dX4_tick_161 : decode cX4_tick 161 = .ok (.iconst 4, 1) := by decide +kernel
theorem dX4_tick_162 : decode cX4_tick 162 = .ok (.iload_n 1, 1) := by decide +kernel
theorem dX4_tick_163 : decode cX4_tick 163 = .ok (.imul, 1) := by decide +kernel
theorem dX4_tick_164 : decode cX4_tick 164 = .ok (.dup2, 1) := by decide +kernel
theorem dX4_tick_165 : decode cX4_tick 165 = .ok (.iaload, 1) := by decide +kernel
theorem dX4_tick_166 : decode cX4_tick 166 = .ok (.aload_n 0, 1) := by decide +kernel
theorem dX4_tick_167 : decode cX4_tick 167 = .ok (.getfield 19, 3) := by decide +kernel
theorem dX4_tick_170 : decode cX4_tick 170 = .ok (.iload_n 1, 1) := by decide +kernel
theorem dX4_tick_171 : decode cX4_tick 171 = .ok (.iaload, 1) := by decide +kernel
theorem dX4_tick_172 : decode cX4_tick 172 = .ok (.aload_n 0, 1) := by decide +kernel
theorem dX4_tick_173 : decode cX4_tick 173 = .ok (.getfield 25, 3) := by decide +kernel
theorem dX4_tick_176 : decode cX4_tick 176 = .ok (.iload_n 1, 1) := by decide +kernel
theorem dX4_tick_177 : decode cX4_tick 177 = .ok (.baload, 1) := by decide +kernel
theorem dX4_tick_178 : decode cX4_tick 178 = .ok (.ifCond .eq 10, 3) := by decide +kernel
theorem dX4_tick_181 : decode cX4_tick 181 = .ok (.aload_n 0, 1) := by decide +kernel
theorem dX4_tick_182 : decode cX4_tick 182 = .ok (.getfield 36, 3) := by decide +kernel
theorem dX4_tick_185 : decode cX4_tick 185 = .ok (.goto 4, 3) := by decide +kernel
theorem dX4_tick_188 : decode cX4_tick 188 = .ok (.iconst 0, 1) := by decide +kernel
theorem dX4_tick_189 : decode cX4_tick 189 = .ok (.iadd, 1) := by decide +kernel
theorem dX4_tick_190 : decode cX4_tick 190 = .ok (.iadd, 1) := by decide +kernel
theorem dX4_tick_191 : decode cX4_tick 191 = .ok (.iastore, 1) := by decide +kernel
theorem dX4_tick_192 : decode cX4_tick 192 = .ok (.iinc 1 1, 3) := by decide +kernel
theorem dX4_tick_195 : decode cX4_tick 195 = .ok (.goto (-142), 3) := by decide +kernel
theorem dX4_tick_198 : decode cX4_tick 198 = .ok (.return_, 1) := by decide +kernel
set_option maxRecDepth 20000 in
theorem ggX4_go_X4_within : GoodIn wsX4_go wsX4_within := goodIn_r _ [10] (by decide +kernel) (by decide +kernel)
set_option maxRecDepth 20000 in
theorem gX4_go_X4_within : GoodIn wsX4_go (va_wsS RX4 75 yX4_within wsX4_within) := goodIn_app (goodIn_of _ (by decide +kernel)) ggX4_go_X4_within
set_option maxRecDepth 20000 in
theorem ggX4_go_X4_tick : GoodIn wsX4_go wsX4_tick := goodIn_r _ [14, 2, 15, 16, 17, 18, 19, 20, 21, 22, 23, 24, 9, 25, 26, 27, 28, 29, 30, 31, 32, 33, 34, 35, 36, 37, 38, 7, 8, 10, 39, 40, 41, 42, 43, 44, 45, 46, 47, 48, 49, 50, 51, 52, 53, 54, 55, 56, 65, 66, 67, 68, 69, 70, 71, 72, 73, 74, 75, 76, 77, 78, 79, 80, 81, 82, 83, 84, 85, 86, 87, 88, 89, 90, 91, 92, 93, 94, 95, 96, 97, 98, 99, 100, 101, 102, 103] (by decide +kernel) (by decide +kernel)
set_option maxRecDepth 20000 in
theorem gX4_go_X4_tick : GoodIn wsX4_go (wsV RX4 166 RX4 yX4_tick wsX4_tick) := goodIn_app (goodIn_of _ (by decide +kernel)) ggX4_go_X4_tick
set_option maxRecDepth 20000 in
theorem ggX4_go_X4_local : GoodIn wsX4_go wsX4_local := goodIn_r _ [60, 2, 30, 31, 32, 9, 33, 34, 16, 35, 36, 37, 38, 7, 8, 10, 61, 62, 63, 64, 19, 65, 66, 67, 68, 69, 70, 71, 72, 73, 74, 75, 76, 77, 78, 79, 80, 81, 82, 83, 84, 85, 86, 87, 88, 89, 90, 91, 92, 93, 94, 95, 96, 97, 98, 99, 100, 101, 102, 103] (by decide +kernel) (by decide +kernel)
set_option maxRecDepth 20000 in
theorem gX4_go_X4_local : GoodIn wsX4_go (wsV RX4 172 RX4 yX4_local wsX4_local) := goodIn_app (goodIn_of _ (by decide +kernel)) ggX4_go_X4_local
theorem dX4_go_0 : decode cX4_go 0 = .ok (.iload_n 1, 1) := by decide +kernel
theorem dX4_go_1 : decode cX4_go 1 = .ok (.iconst 1, 1) := by decide +kernel
theorem dX4_go_2 : decode cX4_go 2 = .ok (.bipush 100, 2) := by decide +kernel
theorem dX4_go_4 : decode cX4_go 4 = .ok (.invokestatic 75, 3) := by decide +kernel
theorem dX4_go_7 : decode cX4_go 7 = .ok (.ifCond .ne 6, 3) := by decide +kernel
theorem dX4_go_10 : decode cX4_go 10 = .ok (.ldc 79, 2) := by decide +kernel
theorem dX4_go_12 : decode cX4_go 12 = .ok (.ireturn, 1) := by decide +kernel
theorem dX4_go_13 : decode cX4_go 13 = .ok (.aload_n 0, 1) := by decide +kernel
theorem dX4_go_14 : decode cX4_go 14 = .ok (.getfield 112, 3) := by decide +kernel
theorem dX4_go_17 : decode cX4_go 17 = .ok (.ifCond .eq 15, 3) := by decide +kernel
theorem dX4_go_20 : decode cX4_go 20 = .ok (.aload_n 0, 1) := by decide +kernel
theorem dX4_go_21 : decode cX4_go 21 = .ok (.getfield 122, 3) := by decide +kernel
theorem dX4_go_24 : decode cX4_go 24 = .ok (.iload_n 1, 1) := by decide +kernel
theorem dX4_go_25 : decode cX4_go 25 = .ok (.iadd, 1) := by decide +kernel
theorem dX4_go_26 : decode cX4_go 26 = .ok (.sipush 9000, 3) := by decide +kernel
theorem dX4_go_29 : decode cX4_go 29 = .ok (.if_icmp .le 6, 3) := by decide +kernel
theorem dX4_go_32 : decode cX4_go 32 = .ok (.ldc 111, 2) := by decide +kernel
theorem dX4_go_34 : decode cX4_go 34 = .ok (.ireturn, 1) := by decide +kernel
theorem dX4_go_35 : decode cX4_go 35 = .ok (.iconst 0, 1) := by decide +kernel
theorem dX4_go_36 : decode cX4_go 36 = .ok (.istore_n 2, 1) := by decide +kernel
theorem dX4_go_37 : decode cX4_go 37 = .ok (.iload_n 2, 1) := by decide +kernel
theorem dX4_go_38 : decode cX4_go 38 = .ok (.iload_n 1, 1) := by decide +kernel
theorem dX4_go_39 : decode cX4_go 39 = .ok (.if_icmp .ge 59, 3) := by decide +kernel
theorem dX4_go_42 : decode cX4_go 42 = .ok (.aload_n 0, 1) := by decide +kernel
theorem dX4_go_43 : decode cX4_go 43 = .ok (.invokevirtual 166, 3) := by decide +kernel
theorem dX4_go_46 : decode cX4_go 46 = .ok (.aload_n 0, 1) := by decide +kernel
theorem dX4_go_47 : decode cX4_go 47 = .ok (.dup, 1) := by decide +kernel
theorem dX4_go_48 : decode cX4_go 48 = .ok (.getfield 122, 3) := by decide +kernel
theorem dX4_go_51 : decode cX4_go 51 = .ok (.iconst 1, 1) := by decide +kernel
theorem dX4_go_52 : decode cX4_go 52 = .ok (.iadd, 1) := by decide +kernel
theorem dX4_go_53 : decode cX4_go 53 = .ok (.putfield 122, 3) := by decide +kernel
theorem dX4_go_56 : decode cX4_go 56 = .ok (.aload_n 0, 1) := by decide +kernel
theorem dX4_go_57 : decode cX4_go 57 = .ok (.dup, 1) := by decide +kernel
theorem dX4_go_58 : decode cX4_go 58 = .ok (.getfield 169, 3) := by decide +kernel
theorem dX4_go_61 : decode cX4_go 61 = .ok (.iconst 1, 1) := by decide +kernel
theorem dX4_go_62 : decode cX4_go 62 = .ok (.iadd, 1) := by decide +kernel
theorem dX4_go_63 : decode cX4_go 63 = .ok (.putfield 169, 3) := by decide +kernel
theorem dX4_go_66 : decode cX4_go 66 = .ok (.aload_n 0, 1) := by decide +kernel
theorem dX4_go_67 : decode cX4_go 67 = .ok (.aload_n 0, 1) := by decide +kernel
theorem dX4_go_68 : decode cX4_go 68 = .ok (.invokevirtual 172, 3) := by decide +kernel
theorem dX4_go_71 : decode cX4_go 71 = .ok (.aload_n 0, 1) := by decide +kernel
theorem dX4_go_72 : decode cX4_go 72 = .ok (.getfield 125, 3) := by decide +kernel
theorem dX4_go_75 : decode cX4_go 75 = .ok (.if_icmp .le 10, 3) := by decide +kernel
theorem dX4_go_78 : decode cX4_go 78 = .ok (.aload_n 0, 1) := by decide +kernel
theorem dX4_go_79 : decode cX4_go 79 = .ok (.invokevirtual 172, 3) := by decide +kernel
theorem dX4_go_82 : decode cX4_go 82 = .ok (.goto 7, 3) := by decide +kernel
theorem dX4_go_85 : decode cX4_go 85 = .ok (.aload_n 0, 1) := by decide +kernel
theorem dX4_go_86 : decode cX4_go 86 = .ok (.getfield 125, 3) := by decide +kernel
theorem dX4_go_89 : decode cX4_go 89 = .ok (.putfield 125, 3) := by decide +kernel
theorem dX4_go_92 : decode cX4_go 92 = .ok (.iinc 2 1, 3) := by decide +kernel
theorem dX4_go_95 : decode cX4_go 95 = .ok (.goto (-58), 3) := by decide +kernel
theorem dX4_go_98 : decode cX4_go 98 = .ok (.aload_n 0, 1) := by decide +kernel
theorem dX4_go_99 : decode cX4_go 99 = .ok (.invokevirtual 172, 3) := by decide +kernel
theorem dX4_go_102 : decode cX4_go 102 = .ok (.ireturn, 1) := by decide +kernel
theorem dX4_skewOf_0 : decode cX4_skewOf 0 = .ok (.aload_n 0, 1) := by decide +kernel
theorem dX4_skewOf_1 : decode cX4_skewOf 1 = .ok (.getfield 22, 3) := by decide +kernel
theorem dX4_skewOf_4 : decode cX4_skewOf 4 = .ok (.iconst 4, 1) := by decide +kernel
theorem dX4_skewOf_5 : decode cX4_skewOf 5 = .ok (.iload_n 1, 1) := by decide +kernel
theorem dX4_skewOf_6 : decode cX4_skewOf 6 = .ok (.imul, 1) := by decide +kernel
theorem dX4_skewOf_7 : decode cX4_skewOf 7 = .ok (.iaload, 1) := by decide +kernel
theorem dX4_skewOf_8 : decode cX4_skewOf 8 = .ok (.aload_n 0, 1) := by decide +kernel
theorem dX4_skewOf_9 : decode cX4_skewOf 9 = .ok (.getfield 22, 3) := by decide +kernel
theorem dX4_skewOf_12 : decode cX4_skewOf 12 = .ok (.iconst 4, 1) := by decide +kernel
theorem dX4_skewOf_13 : decode cX4_skewOf 13 = .ok (.iload_n 2, 1) := by decide +kernel
theorem dX4_skewOf_14 : decode cX4_skewOf 14 = .ok (.imul, 1) := by decide +kernel
theorem dX4_skewOf_15 : decode cX4_skewOf 15 = .ok (.iaload, 1) := by decide +kernel
theorem dX4_skewOf_16 : decode cX4_skewOf 16 = .ok (.isub, 1) := by decide +kernel
theorem dX4_skewOf_17 : decode cX4_skewOf 17 = .ok (.istore_n 3, 1) := by decide +kernel
theorem dX4_skewOf_18 : decode cX4_skewOf 18 = .ok (.iload_n 3, 1) := by decide +kernel
theorem dX4_skewOf_19 : decode cX4_skewOf 19 = .ok (.ifCond .ge 8, 3) := by decide +kernel
theorem dX4_skewOf_22 : decode cX4_skewOf 22 = .ok (.iload_n 3, 1) := by decide +kernel
theorem dX4_skewOf_23 : decode cX4_skewOf 23 = .ok (.ineg, 1) := by decide +kernel
theorem dX4_skewOf_24 : decode cX4_skewOf 24 = .ok (.goto 4, 3) := by decide +kernel
theorem dX4_skewOf_27 : decode cX4_skewOf 27 = .ok (.iload_n 3, 1) := by decide +kernel
theorem dX4_skewOf_28 : decode cX4_skewOf 28 = .ok (.ireturn, 1) := by decide +kernel
set_option maxRecDepth 20000 in
theorem ggX4_local_X4_areBeside : GoodIn wsX4_local wsX4_areBeside := goodIn_r _ [6, 7, 8, 9, 10, 11, 5, 12, 1, 13, 14, 15, 21, 22, 23, 24, 25, 26, 27, 28, 29, 30, 31, 32, 33, 34, 35, 36, 37, 38, 39, 40, 41, 42, 43, 44, 45, 46, 47, 48, 49, 50, 51, 52, 53, 54, 55, 56, 57, 58, 59] (by decide +kernel) (by decide +kernel)
set_option maxRecDepth 20000 in
theorem gX4_local_X4_areBeside : GoodIn wsX4_local (wsV RX4 140 RX4 yX4_areBeside wsX4_areBeside) := goodIn_app (goodIn_of _ (by decide +kernel)) ggX4_local_X4_areBeside
set_option maxRecDepth 20000 in
theorem ggX4_local_X4_skewOf : GoodIn wsX4_local wsX4_skewOf := goodIn_r _ [19, 20, 21, 22, 23, 24, 25, 26, 27, 28, 29, 30, 31, 32, 33, 34, 35, 36, 37, 38, 39, 40, 41, 42, 43, 44, 45, 46, 47, 48, 49, 50, 51, 52, 53, 54, 55, 56, 57, 58, 59] (by decide +kernel) (by decide +kernel)
set_option maxRecDepth 20000 in
theorem gX4_local_X4_skewOf : GoodIn wsX4_local (wsV RX4 175 RX4 yX4_skewOf wsX4_skewOf) := goodIn_app (goodIn_of _ (by decide +kernel)) ggX4_local_X4_skewOf
theorem dX4_local_0 : decode cX4_local 0 = .ok (.iconst 0, 1) := by decide +kernel
theorem dX4_local_1 : decode cX4_local 1 = .ok (.istore_n 1, 1) := by decide +kernel
theorem dX4_local_2 : decode cX4_local 2 = .ok (.iconst 0, 1) := by decide +kernel
theorem dX4_local_3 : decode cX4_local 3 = .ok (.istore_n 2, 1) := by decide +kernel
theorem dX4_local_4 : decode cX4_local 4 = .ok (.iload_n 2, 1) := by decide +kernel
theorem dX4_local_5 : decode cX4_local 5 = .ok (.aload_n 0, 1) := by decide +kernel
theorem dX4_local_6 : decode cX4_local 6 = .ok (.getfield 112, 3) := by decide +kernel
theorem dX4_local_9 : decode cX4_local 9 = .ok (.if_icmp .ge 52, 3) := by decide +kernel
theorem dX4_local_12 : decode cX4_local 12 = .ok (.iconst 0, 1) := by decide +kernel
theorem dX4_local_13 : decode cX4_local 13 = .ok (.istore_n 3, 1) := by decide +kernel
theorem dX4_local_14 : decode cX4_local 14 = .ok (.iload_n 3, 1) := by decide +kernel
theorem dX4_local_15 : decode cX4_local 15 = .ok (.iload_n 2, 1) := by decide +kernel
theorem dX4_local_16 : decode cX4_local 16 = .ok (.if_icmp .ge 39, 3) := by decide +kernel
theorem dX4_local_19 : decode cX4_local 19 = .ok (.aload_n 0, 1) := by decide +kernel
theorem dX4_local_20 : decode cX4_local 20 = .ok (.iload_n 2, 1) := by decide +kernel
theorem dX4_local_21 : decode cX4_local 21 = .ok (.iload_n 3, 1) := by decide +kernel
theorem dX4_local_22 : decode cX4_local 22 = .ok (.invokevirtual 140, 3) := by decide +kernel
theorem dX4_local_25 : decode cX4_local 25 = .ok (.ifCond .eq 22, 3) := by decide +kernel
theorem dX4_local_28 : decode cX4_local 28 = .ok (.aload_n 0, 1) := by decide +kernel
theorem dX4_local_29 : decode cX4_local 29 = .ok (.iload_n 2, 1) := by decide +kernel
theorem dX4_local_30 : decode cX4_local 30 = .ok (.iload_n 3, 1) := by decide +kernel
theorem dX4_local_31 : decode cX4_local 31 = .ok (.invokevirtual 175, 3) := by decide +kernel
theorem dX4_local_34 : decode cX4_local 34 = .ok (.iload_n 1, 1) := by decide +kernel
theorem dX4_local_35 : decode cX4_local 35 = .ok (.if_icmp .le 12, 3) := by decide +kernel
theorem dX4_local_38 : decode cX4_local 38 = .ok (.aload_n 0, 1) := by decide +kernel
theorem dX4_local_39 : decode cX4_local 39 = .ok (.iload_n 2, 1) := by decide +kernel
theorem dX4_local_40 : decode cX4_local 40 = .ok (.iload_n 3, 1) := by decide +kernel
theorem dX4_local_41 : decode cX4_local 41 = .ok (.invokevirtual 175, 3) := by decide +kernel
theorem dX4_local_44 : decode cX4_local 44 = .ok (.goto 4, 3) := by decide +kernel
theorem dX4_local_47 : decode cX4_local 47 = .ok (.iload_n 1, 1) := by decide +kernel
theorem dX4_local_48 : decode cX4_local 48 = .ok (.istore_n 1, 1) := by decide +kernel
theorem dX4_local_49 : decode cX4_local 49 = .ok (.iinc 3 1, 3) := by decide +kernel
theorem dX4_local_52 : decode cX4_local 52 = .ok (.goto (-38), 3) := by decide +kernel
theorem dX4_local_55 : decode cX4_local 55 = .ok (.iinc 2 1, 3) := by decide +kernel
theorem dX4_local_58 : decode cX4_local 58 = .ok (.goto (-54), 3) := by decide +kernel
theorem dX4_local_61 : decode cX4_local 61 = .ok (.iload_n 1, 1) := by decide +kernel
theorem dX4_local_62 : decode cX4_local 62 = .ok (.ireturn, 1) := by decide +kernel
set_option maxRecDepth 20000 in
theorem ggX4_global_X4_skewOf : GoodIn wsX4_global wsX4_skewOf := goodIn_r _ [6, 7, 8, 9, 10, 11, 12, 13, 14, 15, 16, 17, 18, 19, 20, 21, 22, 23, 24, 25, 26, 27, 28, 29, 30, 31, 32, 33, 34, 35, 36, 37, 38, 39, 40, 41, 42, 43, 44, 45, 46] (by decide +kernel) (by decide +kernel)
set_option maxRecDepth 20000 in
theorem gX4_global_X4_skewOf : GoodIn wsX4_global (wsV RX4 175 RX4 yX4_skewOf wsX4_skewOf) := goodIn_app (goodIn_of _ (by decide +kernel)) ggX4_global_X4_skewOf
theorem dX4_global_0 : decode cX4_global 0 = .ok (.iconst 0, 1) := by decide +kernel
theorem dX4_global_1 : decode cX4_global 1 = .ok (.istore_n 1, 1) := by decide +kernel
theorem dX4_global_2 : decode cX4_global 2 = .ok (.iconst 0, 1) := by decide +kernel
theorem dX4_global_3 : decode cX4_global 3 = .ok (.istore_n 2, 1) := by decide +kernel
theorem dX4_global_4 : decode cX4_global 4 = .ok (.iload_n 2, 1) := by decide +kernel
theorem dX4_global_5 : decode cX4_global 5 = .ok (.aload_n 0, 1) := by decide +kernel
theorem dX4_global_6 : decode cX4_global 6 = .ok (.getfield 112, 3) := by decide +kernel
theorem dX4_global_9 : decode cX4_global 9 = .ok (.if_icmp .ge 43, 3) := by decide +kernel
theorem dX4_global_12 : decode cX4_global 12 = .ok (.iconst 0, 1) := by decide +kernel
theorem dX4_global_13 : decode cX4_global 13 = .ok (.istore_n 3, 1) := by decide +kernel
theorem dX4_global_14 : decode cX4_global 14 = .ok (.iload_n 3, 1) := by decide +kernel
theorem dX4_global_15 : decode cX4_global 15 = .ok (.iload_n 2, 1) := by decide +kernel
theorem dX4_global_16 : decode cX4_global 16 = .ok (.if_icmp .ge 30, 3) := by decide +kernel
theorem dX4_global_19 : decode cX4_global 19 = .ok (.aload_n 0, 1) := by decide +kernel
theorem dX4_global_20 : decode cX4_global 20 = .ok (.iload_n 2, 1) := by decide +kernel
theorem dX4_global_21 : decode cX4_global 21 = .ok (.iload_n 3, 1) := by decide +kernel
theorem dX4_global_22 : decode cX4_global 22 = .ok (.invokevirtual 175, 3) := by decide +kernel
theorem dX4_global_25 : decode cX4_global 25 = .ok (.iload_n 1, 1) := by decide +kernel
theorem dX4_global_26 : decode cX4_global 26 = .ok (.if_icmp .le 12, 3) := by decide +kernel
theorem dX4_global_29 : decode cX4_global 29 = .ok (.aload_n 0, 1) := by decide +kernel
theorem dX4_global_30 : decode cX4_global 30 = .ok (.iload_n 2, 1) := by decide +kernel
theorem dX4_global_31 : decode cX4_global 31 = .ok (.iload_n 3, 1) := by decide +kernel
theorem dX4_global_32 : decode cX4_global 32 = .ok (.invokevirtual 175, 3) := by decide +kernel
theorem dX4_global_35 : decode cX4_global 35 = .ok (.goto 4, 3) := by decide +kernel
theorem dX4_global_38 : decode cX4_global 38 = .ok (.iload_n 1, 1) := by decide +kernel
theorem dX4_global_39 : decode cX4_global 39 = .ok (.istore_n 1, 1) := by decide +kernel
theorem dX4_global_40 : decode cX4_global 40 = .ok (.iinc 3 1, 3) := by decide +kernel
theorem dX4_global_43 : decode cX4_global 43 = .ok (.goto (-29), 3) := by decide +kernel
theorem dX4_global_46 : decode cX4_global 46 = .ok (.iinc 2 1, 3) := by decide +kernel
theorem dX4_global_49 : decode cX4_global 49 = .ok (.goto (-45), 3) := by decide +kernel
theorem dX4_global_52 : decode cX4_global 52 = .ok (.iload_n 1, 1) := by decide +kernel
theorem dX4_global_53 : decode cX4_global 53 = .ok (.ireturn, 1) := by decide +kernel
set_option maxRecDepth 20000 in
theorem ggX4_levelNow_X4_local : GoodIn wsX4_levelNow wsX4_local := goodIn_r _ [5, 6, 7, 8, 9, 4, 10, 11, 12, 13, 14, 15, 16, 17, 18, 19, 20, 21, 22, 23, 24, 30, 31, 32, 33, 34, 35, 36, 37, 38, 39, 40, 41, 42, 43, 44, 45, 46, 47, 48, 49, 50, 51, 52, 53, 54, 55, 56, 57, 58, 59, 60, 61, 62, 63, 64, 65, 66, 67, 68] (by decide +kernel) (by decide +kernel)
set_option maxRecDepth 20000 in
theorem gX4_levelNow_X4_local : GoodIn wsX4_levelNow (wsV RX4 172 RX4 yX4_local wsX4_local) := goodIn_app (goodIn_of _ (by decide +kernel)) ggX4_levelNow_X4_local
set_option maxRecDepth 20000 in
theorem ggX4_levelNow_X4_firstOf : GoodIn wsX4_levelNow wsX4_firstOf := goodIn_r _ [28, 29, 30, 31, 32, 33, 34, 35, 36, 37, 38, 39, 40, 41, 42, 43, 44, 45, 46, 47, 48, 49, 50, 51, 52, 53, 54, 55, 56, 57, 58, 59, 60, 61, 62, 63, 64, 65, 66, 67, 68] (by decide +kernel) (by decide +kernel)
set_option maxRecDepth 20000 in
theorem gX4_levelNow_X4_firstOf : GoodIn wsX4_levelNow (wsV RX4 148 RX4 yX4_firstOf wsX4_firstOf) := goodIn_app (goodIn_of _ (by decide +kernel)) ggX4_levelNow_X4_firstOf
theorem dX4_levelNow_0 : decode cX4_levelNow 0 = .ok (.aload_n 0, 1) := by decide +kernel
theorem dX4_levelNow_1 : decode cX4_levelNow 1 = .ok (.aload_n 0, 1) := by decide +kernel
theorem dX4_levelNow_2 : decode cX4_levelNow 2 = .ok (.invokevirtual 172, 3) := by decide +kernel
theorem dX4_levelNow_5 : decode cX4_levelNow 5 = .ok (.iconst 1, 1) := by decide +kernel
theorem dX4_levelNow_6 : decode cX4_levelNow 6 = .ok (.invokevirtual 148, 3) := by decide +kernel
theorem dX4_levelNow_9 : decode cX4_levelNow 9 = .ok (.iconst 1, 1) := by decide +kernel
theorem dX4_levelNow_10 : decode cX4_levelNow 10 = .ok (.isub, 1) := by decide +kernel
theorem dX4_levelNow_11 : decode cX4_levelNow 11 = .ok (.iconst 2, 1) := by decide +kernel
theorem dX4_levelNow_12 : decode cX4_levelNow 12 = .ok (.idiv, 1) := by decide +kernel
theorem dX4_levelNow_13 : decode cX4_levelNow 13 = .ok (.ireturn, 1) := by decide +kernel
set_option maxRecDepth 20000 in
theorem ggX4_hopsNow_X4_areBeside : GoodIn wsX4_hopsNow wsX4_areBeside := goodIn_r _ [6, 7, 1, 8, 9, 10, 5, 11, 12, 13, 14, 15, 16, 17, 18, 19, 20, 21, 22, 23, 24, 25, 26, 27, 28, 29, 30, 31, 32, 33, 34, 35, 36, 37, 38, 39, 40, 41, 42, 43, 44, 45, 46, 47, 48, 49, 50, 51, 52, 53, 54] (by decide +kernel) (by decide +kernel)
set_option maxRecDepth 20000 in
theorem gX4_hopsNow_X4_areBeside : GoodIn wsX4_hopsNow (wsV RX4 140 RX4 yX4_areBeside wsX4_areBeside) := goodIn_app (goodIn_of _ (by decide +kernel)) ggX4_hopsNow_X4_areBeside
theorem dX4_hopsNow_0 : decode cX4_hopsNow 0 = .ok (.iconst 1, 1) := by decide +kernel
theorem dX4_hopsNow_1 : decode cX4_hopsNow 1 = .ok (.iload_n 1, 1) := by decide +kernel
theorem dX4_hopsNow_2 : decode cX4_hopsNow 2 = .ok (.ishl, 1) := by decide +kernel
theorem dX4_hopsNow_3 : decode cX4_hopsNow 3 = .ok (.istore_n 3, 1) := by decide +kernel
theorem dX4_hopsNow_4 : decode cX4_hopsNow 4 = .ok (.iconst 0, 1) := by decide +kernel
theorem dX4_hopsNow_5 : decode cX4_hopsNow 5 = .ok (.istore 4, 2) := by decide +kernel
theorem dX4_hopsNow_7 : decode cX4_hopsNow 7 = .ok (.iload_n 3, 1) := by decide +kernel
theorem dX4_hopsNow_8 : decode cX4_hopsNow 8 = .ok (.iload_n 2, 1) := by decide +kernel
theorem dX4_hopsNow_9 : decode cX4_hopsNow 9 = .ok (.ishr, 1) := by decide +kernel
theorem dX4_hopsNow_10 : decode cX4_hopsNow 10 = .ok (.iconst 1, 1) := by decide +kernel
theorem dX4_hopsNow_11 : decode cX4_hopsNow 11 = .ok (.iand, 1) := by decide +kernel
theorem dX4_hopsNow_12 : decode cX4_hopsNow 12 = .ok (.ifCond .ne 86, 3) := by decide +kernel
theorem dX4_hopsNow_15 : decode cX4_hopsNow 15 = .ok (.iload_n 3, 1) := by decide +kernel
theorem dX4_hopsNow_16 : decode cX4_hopsNow 16 = .ok (.istore 5, 2) := by decide +kernel
theorem dX4_hopsNow_18 : decode cX4_hopsNow 18 = .ok (.iconst 0, 1) := by decide +kernel
theorem dX4_hopsNow_19 : decode cX4_hopsNow 19 = .ok (.istore 6, 2) := by decide +kernel
theorem dX4_hopsNow_21 : decode cX4_hopsNow 21 = .ok (.iload 6, 2) := by decide +kernel
theorem dX4_hopsNow_23 : decode cX4_hopsNow 23 = .ok (.bipush 36, 2) := by decide +kernel
theorem dX4_hopsNow_25 : decode cX4_hopsNow 25 = .ok (.if_icmp .ge 55, 3) := by decide +kernel
theorem dX4_hopsNow_28 : decode cX4_hopsNow 28 = .ok (.iload 5, 2) := by decide +kernel
theorem dX4_hopsNow_30 : decode cX4_hopsNow 30 = .ok (.iload_n 3, 1) := by decide +kernel
theorem dX4_hopsNow_31 : decode cX4_hopsNow 31 = .ok (.iload 6, 2) := by decide +kernel
theorem dX4_hopsNow_33 : decode cX4_hopsNow 33 = .ok (.bipush 6, 2) := by decide +kernel
theorem dX4_hopsNow_35 : decode cX4_hopsNow 35 = .ok (.idiv, 1) := by decide +kernel
theorem dX4_hopsNow_36 : decode cX4_hopsNow 36 = .ok (.ishr, 1) := by decide +kernel
theorem dX4_hopsNow_37 : decode cX4_hopsNow 37 = .ok (.iconst 1, 1) := by decide +kernel
theorem dX4_hopsNow_38 : decode cX4_hopsNow 38 = .ok (.iand, 1) := by decide +kernel
theorem dX4_hopsNow_39 : decode cX4_hopsNow 39 = .ok (.iconst 1, 1) := by decide +kernel
theorem dX4_hopsNow_40 : decode cX4_hopsNow 40 = .ok (.if_icmp .ne 30, 3) := by decide +kernel
theorem dX4_hopsNow_43 : decode cX4_hopsNow 43 = .ok (.aload_n 0, 1) := by decide +kernel
theorem dX4_hopsNow_44 : decode cX4_hopsNow 44 = .ok (.iload 6, 2) := by decide +kernel
theorem dX4_hopsNow_46 : decode cX4_hopsNow 46 = .ok (.bipush 6, 2) := by decide +kernel
theorem dX4_hopsNow_48 : decode cX4_hopsNow 48 = .ok (.idiv, 1) := by decide +kernel
theorem dX4_hopsNow_49 : decode cX4_hopsNow 49 = .ok (.iload 6, 2) := by decide +kernel
theorem dX4_hopsNow_51 : decode cX4_hopsNow 51 = .ok (.bipush 6, 2) := by decide +kernel
theorem dX4_hopsNow_53 : decode cX4_hopsNow 53 = .ok (.irem, 1) := by decide +kernel
theorem dX4_hopsNow_54 : decode cX4_hopsNow 54 = .ok (.invokevirtual 140, 3) := by decide +kernel
theorem dX4_hopsNow_57 : decode cX4_hopsNow 57 = .ok (.ifCond .eq 13, 3) := by decide +kernel
theorem dX4_hopsNow_60 : decode cX4_hopsNow 60 = .ok (.iconst 1, 1) := by decide +kernel
theorem dX4_hopsNow_61 : decode cX4_hopsNow 61 = .ok (.iload 6, 2) := by decide +kernel
theorem dX4_hopsNow_63 : decode cX4_hopsNow 63 = .ok (.bipush 6, 2) := by decide +kernel
theorem dX4_hopsNow_65 : decode cX4_hopsNow 65 = .ok (.irem, 1) := by decide +kernel
theorem dX4_hopsNow_66 : decode cX4_hopsNow 66 = .ok (.ishl, 1) := by decide +kernel
theorem dX4_hopsNow_67 : decode cX4_hopsNow 67 = .ok (.goto 4, 3) := by decide +kernel
theorem dX4_hopsNow_70 : decode cX4_hopsNow 70 = .ok (.iconst 0, 1) := by decide +kernel
theorem dX4_hopsNow_71 : decode cX4_hopsNow 71 = .ok (.ior, 1) := by decide +kernel
theorem dX4_hopsNow_72 : decode cX4_hopsNow 72 = .ok (.istore 5, 2) := by decide +kernel
theorem dX4_hopsNow_74 : decode cX4_hopsNow 74 = .ok (.iinc 6 1, 3) := by decide +kernel
theorem dX4_hopsNow_77 : decode cX4_hopsNow 77 = .ok (.goto (-56), 3) := by decide +kernel
theorem dX4_hopsNow_80 : decode cX4_hopsNow 80 = .ok (.iload 5, 2) := by decide +kernel
theorem dX4_hopsNow_82 : decode cX4_hopsNow 82 = .ok (.iload_n 3, 1) := by decide +kernel
theorem dX4_hopsNow_83 : decode cX4_hopsNow 83 = .ok (.if_icmp .ne 6, 3) := by decide +kernel
theorem dX4_hopsNow_86 : decode cX4_hopsNow 86 = .ok (.ldc 96, 2) := by decide +kernel
theorem dX4_hopsNow_88 : decode cX4_hopsNow 88 = .ok (.ireturn, 1) := by decide +kernel
theorem dX4_hopsNow_89 : decode cX4_hopsNow 89 = .ok (.iload 5, 2) := by decide +kernel
theorem dX4_hopsNow_91 : decode cX4_hopsNow 91 = .ok (.istore_n 3, 1) := by decide +kernel
theorem dX4_hopsNow_92 : decode cX4_hopsNow 92 = .ok (.iinc 4 1, 3) := by decide +kernel
theorem dX4_hopsNow_95 : decode cX4_hopsNow 95 = .ok (.goto (-88), 3) := by decide +kernel
theorem dX4_hopsNow_98 : decode cX4_hopsNow 98 = .ok (.iload 4, 2) := by decide +kernel
theorem dX4_hopsNow_100 : decode cX4_hopsNow 100 = .ok (.ireturn, 1) := by decide +kernel
set_option maxRecDepth 20000 in
theorem ggX4_hops_X4_isNode : GoodIn wsX4_hops wsX4_isNode := goodIn_r _ [6, 7, 8, 9, 5, 10, 21, 22, 23, 24, 25, 26, 27, 28, 29, 30, 31, 32, 33, 34, 35, 36, 37, 38, 39, 40, 41, 42, 43, 44, 45, 46, 47, 48, 49, 50, 51, 52, 53, 54, 55, 56, 57, 58, 59] (by decide +kernel) (by decide +kernel)
set_option maxRecDepth 20000 in
theorem gX4_hops_X4_isNode : GoodIn wsX4_hops (wsV RX4 135 RX4 yX4_isNode wsX4_isNode) := goodIn_app (goodIn_of _ (by decide +kernel)) ggX4_hops_X4_isNode
set_option maxRecDepth 20000 in
theorem ggX4_hops_X4_hopsNow : GoodIn wsX4_hops wsX4_hopsNow := goodIn_r _ [14, 15, 16, 17, 18, 5, 19, 20, 2, 3, 4, 6, 7, 8, 9, 10, 21, 22, 23, 24, 25, 26, 27, 28, 29, 30, 31, 32, 33, 34, 35, 36, 37, 38, 39, 40, 41, 42, 43, 44, 45, 46, 47, 48, 49, 50, 51, 52, 53, 54, 55, 56, 57, 58, 59] (by decide +kernel) (by decide +kernel)
set_option maxRecDepth 20000 in
theorem gX4_hops_X4_hopsNow : GoodIn wsX4_hops (wsV RX4 178 RX4 yX4_hopsNow wsX4_hopsNow) := goodIn_app (goodIn_of _ (by decide +kernel)) ggX4_hops_X4_hopsNow
theorem dX4_hops_0 : decode cX4_hops 0 = .ok (.aload_n 0, 1) := by decide +kernel
theorem dX4_hops_1 : decode cX4_hops 1 = .ok (.iload_n 1, 1) := by decide +kernel
theorem dX4_hops_2 : decode cX4_hops 2 = .ok (.invokevirtual 135, 3) := by decide +kernel
theorem dX4_hops_5 : decode cX4_hops 5 = .ok (.ifCond .eq 20, 3) := by decide +kernel
theorem dX4_hops_8 : decode cX4_hops 8 = .ok (.aload_n 0, 1) := by decide +kernel
theorem dX4_hops_9 : decode cX4_hops 9 = .ok (.iload_n 2, 1) := by decide +kernel
theorem dX4_hops_10 : decode cX4_hops 10 = .ok (.invokevirtual 135, 3) := by decide +kernel
theorem dX4_hops_13 : decode cX4_hops 13 = .ok (.ifCond .eq 12, 3) := by decide +kernel
theorem dX4_hops_16 : decode cX4_hops 16 = .ok (.aload_n 0, 1) := by decide +kernel
theorem dX4_hops_17 : decode cX4_hops 17 = .ok (.iload_n 1, 1) := by decide +kernel
theorem dX4_hops_18 : decode cX4_hops 18 = .ok (.iload_n 2, 1) := by decide +kernel
theorem dX4_hops_19 : decode cX4_hops 19 = .ok (.invokevirtual 178, 3) := by decide +kernel
theorem dX4_hops_22 : decode cX4_hops 22 = .ok (.goto 5, 3) := by decide +kernel
theorem dX4_hops_25 : decode cX4_hops 25 = .ok (.ldc 138, 2) := by decide +kernel
theorem dX4_hops_27 : decode cX4_hops 27 = .ok (.ireturn, 1) := by decide +kernel
set_option maxRecDepth 20000 in
theorem ggX4_skewNow_X4_local : GoodIn wsX4_skewNow wsX4_local := goodIn_r _ [6, 7, 8, 9, 10, 5, 11, 12, 13, 14, 15, 16, 17, 18, 19, 20, 21, 22, 23, 24, 25, 39, 40, 41, 42, 43, 44, 45, 46, 47, 48, 49, 50, 51, 52, 53, 54, 55, 56, 57, 58, 59, 60, 61, 62, 63, 64, 65, 66, 67, 68, 69, 70, 71, 72, 73, 74, 75, 76, 77] (by decide +kernel) (by decide +kernel)
set_option maxRecDepth 20000 in
theorem gX4_skewNow_X4_local : GoodIn wsX4_skewNow (wsV RX4 172 RX4 yX4_local wsX4_local) := goodIn_app (goodIn_of _ (by decide +kernel)) ggX4_skewNow_X4_local
set_option maxRecDepth 20000 in
theorem ggX4_skewNow_X4_global : GoodIn wsX4_skewNow wsX4_global := goodIn_r _ [29, 7, 21, 22, 23, 5, 24, 25, 39, 40, 41, 42, 43, 44, 45, 46, 47, 48, 49, 50, 51, 52, 53, 54, 55, 56, 57, 58, 59, 60, 61, 62, 63, 64, 65, 66, 67, 68, 69, 70, 71, 72, 73, 74, 75, 76, 77] (by decide +kernel) (by decide +kernel)
set_option maxRecDepth 20000 in
theorem gX4_skewNow_X4_global : GoodIn wsX4_skewNow (wsV RX4 181 RX4 yX4_global wsX4_global) := goodIn_app (goodIn_of _ (by decide +kernel)) ggX4_skewNow_X4_global
set_option maxRecDepth 20000 in
theorem ggX4_skewNow_X4_levelNow : GoodIn wsX4_skewNow wsX4_levelNow := goodIn_r _ [33, 2, 3, 4, 5, 6, 7, 8, 9, 10, 11, 12, 13, 14, 15, 16, 17, 18, 19, 20, 21, 22, 23, 24, 25, 34, 35, 36, 37, 38, 39, 40, 41, 42, 43, 44, 45, 46, 47, 48, 49, 50, 51, 52, 53, 54, 55, 56, 57, 58, 59, 60, 61, 62, 63, 64, 65, 66, 67, 68, 69, 70, 71, 72, 73, 74, 75, 76, 77] (by decide +kernel) (by decide +kernel)
set_option maxRecDepth 20000 in
theorem gX4_skewNow_X4_levelNow : GoodIn wsX4_skewNow (wsV RX4 184 RX4 yX4_levelNow wsX4_levelNow) := goodIn_app (goodIn_of _ (by decide +kernel)) ggX4_skewNow_X4_levelNow
theorem dX4_skewNow_0 : decode cX4_skewNow 0 = .ok (.iload_n 1, 1) := by decide +kernel
theorem dX4_skewNow_1 : decode cX4_skewNow 1 = .ok (.ifCond .ne 10, 3) := by decide +kernel
theorem dX4_skewNow_4 : decode cX4_skewNow 4 = .ok (.aload_n 0, 1) := by decide +kernel
theorem dX4_skewNow_5 : decode cX4_skewNow 5 = .ok (.invokevirtual 172, 3) := by decide +kernel
theorem dX4_skewNow_8 : decode cX4_skewNow 8 = .ok (.goto 31, 3) := by decide +kernel
theorem dX4_skewNow_11 : decode cX4_skewNow 11 = .ok (.iload_n 1, 1) := by decide +kernel
theorem dX4_skewNow_12 : decode cX4_skewNow 12 = .ok (.iconst 1, 1) := by decide +kernel
theorem dX4_skewNow_13 : decode cX4_skewNow 13 = .ok (.if_icmp .ne 10, 3) := by decide +kernel
theorem dX4_skewNow_16 : decode cX4_skewNow 16 = .ok (.aload_n 0, 1) := by decide +kernel
theorem dX4_skewNow_17 : decode cX4_skewNow 17 = .ok (.invokevirtual 181, 3) := by decide +kernel
theorem dX4_skewNow_20 : decode cX4_skewNow 20 = .ok (.goto 19, 3) := by decide +kernel
theorem dX4_skewNow_23 : decode cX4_skewNow 23 = .ok (.iload_n 1, 1) := by decide +kernel
theorem dX4_skewNow_24 : decode cX4_skewNow 24 = .ok (.iconst 2, 1) := by decide +kernel
theorem dX4_skewNow_25 : decode cX4_skewNow 25 = .ok (.if_icmp .ne 10, 3) := by decide +kernel
theorem dX4_skewNow_28 : decode cX4_skewNow 28 = .ok (.aload_n 0, 1) := by decide +kernel
theorem dX4_skewNow_29 : decode cX4_skewNow 29 = .ok (.invokevirtual 184, 3) := by decide +kernel
theorem dX4_skewNow_32 : decode cX4_skewNow 32 = .ok (.goto 7, 3) := by decide +kernel
theorem dX4_skewNow_35 : decode cX4_skewNow 35 = .ok (.aload_n 0, 1) := by decide +kernel
theorem dX4_skewNow_36 : decode cX4_skewNow 36 = .ok (.getfield 125, 3) := by decide +kernel
theorem dX4_skewNow_39 : decode cX4_skewNow 39 = .ok (.ireturn, 1) := by decide +kernel
set_option maxRecDepth 20000 in
theorem ggX4_skew_X4_within : GoodIn wsX4_skew wsX4_within := goodIn_r _ [7] (by decide +kernel) (by decide +kernel)
set_option maxRecDepth 20000 in
theorem gX4_skew_X4_within : GoodIn wsX4_skew (va_wsS RX4 75 yX4_within wsX4_within) := goodIn_app (goodIn_of _ (by decide +kernel)) ggX4_skew_X4_within
set_option maxRecDepth 20000 in
theorem ggX4_skew_X4_skewNow : GoodIn wsX4_skew wsX4_skewNow := goodIn_r _ [11, 12, 13, 14, 15, 6, 16, 2, 17, 18, 19, 20, 21, 22, 23, 24, 25, 26, 4, 5, 7, 27, 28, 29, 30, 31, 32, 33, 34, 35, 36, 37, 38, 39, 40, 41, 42, 43, 44, 45, 46, 47, 48, 49, 50, 51, 52, 53, 54, 55, 56, 57, 58, 59, 60, 61, 62, 63, 64, 65, 66, 67, 68, 69, 70, 71, 72, 73, 74, 75, 76, 77, 78, 79, 80, 81, 82, 83] (by decide +kernel) (by decide +kernel)
set_option maxRecDepth 20000 in
theorem gX4_skew_X4_skewNow : GoodIn wsX4_skew (wsV RX4 187 RX4 yX4_skewNow wsX4_skewNow) := goodIn_app (goodIn_of _ (by decide +kernel)) ggX4_skew_X4_skewNow
theorem dX4_skew_0 : decode cX4_skew 0 = .ok (.iload_n 1, 1) := by decide +kernel
theorem dX4_skew_1 : decode cX4_skew 1 = .ok (.iconst 0, 1) := by decide +kernel
theorem dX4_skew_2 : decode cX4_skew 2 = .ok (.iconst 3, 1) := by decide +kernel
theorem dX4_skew_3 : decode cX4_skew 3 = .ok (.invokestatic 75, 3) := by decide +kernel
theorem dX4_skew_6 : decode cX4_skew 6 = .ok (.ifCond .ne 6, 3) := by decide +kernel
theorem dX4_skew_9 : decode cX4_skew 9 = .ok (.ldc 79, 2) := by decide +kernel
theorem dX4_skew_11 : decode cX4_skew 11 = .ok (.ireturn, 1) := by decide +kernel
theorem dX4_skew_12 : decode cX4_skew 12 = .ok (.aload_n 0, 1) := by decide +kernel
theorem dX4_skew_13 : decode cX4_skew 13 = .ok (.getfield 112, 3) := by decide +kernel
theorem dX4_skew_16 : decode cX4_skew 16 = .ok (.ifCond .ne 8, 3) := by decide +kernel
theorem dX4_skew_19 : decode cX4_skew 19 = .ok (.ldc 111, 2) := by decide +kernel
theorem dX4_skew_21 : decode cX4_skew 21 = .ok (.goto 8, 3) := by decide +kernel
theorem dX4_skew_24 : decode cX4_skew 24 = .ok (.aload_n 0, 1) := by decide +kernel
theorem dX4_skew_25 : decode cX4_skew 25 = .ok (.iload_n 1, 1) := by decide +kernel
theorem dX4_skew_26 : decode cX4_skew 26 = .ok (.invokevirtual 187, 3) := by decide +kernel
theorem dX4_skew_29 : decode cX4_skew 29 = .ok (.ireturn, 1) := by decide +kernel
set_option maxRecDepth 20000 in
theorem ggX4_spreadNow_X4_hopsNow : GoodIn wsX4_spreadNow wsX4_hopsNow := goodIn_r _ [7, 1, 8, 9, 10, 6, 11, 12, 13, 14, 15, 16, 2, 17, 18, 19, 25, 26, 27, 28, 29, 30, 31, 32, 33, 34, 35, 36, 37, 38, 39, 40, 41, 42, 43, 44, 45, 46, 47, 48, 49, 50, 51, 52, 53, 54, 55, 56, 57, 58, 59, 60, 61, 62, 63] (by decide +kernel) (by decide +kernel)
set_option maxRecDepth 20000 in
theorem gX4_spreadNow_X4_hopsNow : GoodIn wsX4_spreadNow (wsV RX4 178 RX4 yX4_hopsNow wsX4_hopsNow) := goodIn_app (goodIn_of _ (by decide +kernel)) ggX4_spreadNow_X4_hopsNow
set_option maxRecDepth 20000 in
theorem ggX4_spreadNow_X4_skewOf : GoodIn wsX4_spreadNow wsX4_skewOf := goodIn_r _ [23, 24, 25, 26, 27, 28, 29, 30, 31, 32, 33, 34, 35, 36, 37, 38, 39, 40, 41, 42, 43, 44, 45, 46, 47, 48, 49, 50, 51, 52, 53, 54, 55, 56, 57, 58, 59, 60, 61, 62, 63] (by decide +kernel) (by decide +kernel)
set_option maxRecDepth 20000 in
theorem gX4_spreadNow_X4_skewOf : GoodIn wsX4_spreadNow (wsV RX4 175 RX4 yX4_skewOf wsX4_skewOf) := goodIn_app (goodIn_of _ (by decide +kernel)) ggX4_spreadNow_X4_skewOf
theorem dX4_spreadNow_0 : decode cX4_spreadNow 0 = .ok (.ldc 96, 2) := by decide +kernel
theorem dX4_spreadNow_2 : decode cX4_spreadNow 2 = .ok (.istore_n 2, 1) := by decide +kernel
theorem dX4_spreadNow_3 : decode cX4_spreadNow 3 = .ok (.iconst 0, 1) := by decide +kernel
theorem dX4_spreadNow_4 : decode cX4_spreadNow 4 = .ok (.istore_n 3, 1) := by decide +kernel
theorem dX4_spreadNow_5 : decode cX4_spreadNow 5 = .ok (.iload_n 3, 1) := by decide +kernel
theorem dX4_spreadNow_6 : decode cX4_spreadNow 6 = .ok (.aload_n 0, 1) := by decide +kernel
theorem dX4_spreadNow_7 : decode cX4_spreadNow 7 = .ok (.getfield 112, 3) := by decide +kernel
theorem dX4_spreadNow_10 : decode cX4_spreadNow 10 = .ok (.if_icmp .ge 64, 3) := by decide +kernel
theorem dX4_spreadNow_13 : decode cX4_spreadNow 13 = .ok (.iconst 0, 1) := by decide +kernel
theorem dX4_spreadNow_14 : decode cX4_spreadNow 14 = .ok (.istore 4, 2) := by decide +kernel
theorem dX4_spreadNow_16 : decode cX4_spreadNow 16 = .ok (.iload 4, 2) := by decide +kernel
theorem dX4_spreadNow_18 : decode cX4_spreadNow 18 = .ok (.iload_n 3, 1) := by decide +kernel
theorem dX4_spreadNow_19 : decode cX4_spreadNow 19 = .ok (.if_icmp .ge 49, 3) := by decide +kernel
theorem dX4_spreadNow_22 : decode cX4_spreadNow 22 = .ok (.aload_n 0, 1) := by decide +kernel
theorem dX4_spreadNow_23 : decode cX4_spreadNow 23 = .ok (.iload_n 3, 1) := by decide +kernel
theorem dX4_spreadNow_24 : decode cX4_spreadNow 24 = .ok (.iload 4, 2) := by decide +kernel
theorem dX4_spreadNow_26 : decode cX4_spreadNow 26 = .ok (.invokevirtual 178, 3) := by decide +kernel
theorem dX4_spreadNow_29 : decode cX4_spreadNow 29 = .ok (.iload_n 1, 1) := by decide +kernel
theorem dX4_spreadNow_30 : decode cX4_spreadNow 30 = .ok (.if_icmp .ne 32, 3) := by decide +kernel
theorem dX4_spreadNow_33 : decode cX4_spreadNow 33 = .ok (.iload_n 2, 1) := by decide +kernel
theorem dX4_spreadNow_34 : decode cX4_spreadNow 34 = .ok (.ldc 96, 2) := by decide +kernel
theorem dX4_spreadNow_36 : decode cX4_spreadNow 36 = .ok (.if_icmp .eq 14, 3) := by decide +kernel
theorem dX4_spreadNow_39 : decode cX4_spreadNow 39 = .ok (.aload_n 0, 1) := by decide +kernel
theorem dX4_spreadNow_40 : decode cX4_spreadNow 40 = .ok (.iload_n 3, 1) := by decide +kernel
theorem dX4_spreadNow_41 : decode cX4_spreadNow 41 = .ok (.iload 4, 2) := by decide +kernel
theorem dX4_spreadNow_43 : decode cX4_spreadNow 43 = .ok (.invokevirtual 175, 3) := by decide +kernel
theorem dX4_spreadNow_46 : decode cX4_spreadNow 46 = .ok (.iload_n 2, 1) := by decide +kernel
theorem dX4_spreadNow_47 : decode cX4_spreadNow 47 = .ok (.if_icmp .le 13, 3) := by decide +kernel
theorem dX4_spreadNow_50 : decode cX4_spreadNow 50 = .ok (.aload_n 0, 1) := by decide +kernel
theorem dX4_spreadNow_51 : decode cX4_spreadNow 51 = .ok (.iload_n 3, 1) := by decide +kernel
theorem dX4_spreadNow_52 : decode cX4_spreadNow 52 = .ok (.iload 4, 2) := by decide +kernel
theorem dX4_spreadNow_54 : decode cX4_spreadNow 54 = .ok (.invokevirtual 175, 3) := by decide +kernel
theorem dX4_spreadNow_57 : decode cX4_spreadNow 57 = .ok (.goto 4, 3) := by decide +kernel
theorem dX4_spreadNow_60 : decode cX4_spreadNow 60 = .ok (.iload_n 2, 1) := by decide +kernel
theorem dX4_spreadNow_61 : decode cX4_spreadNow 61 = .ok (.istore_n 2, 1) := by decide +kernel
theorem dX4_spreadNow_62 : decode cX4_spreadNow 62 = .ok (.iinc 4 1, 3) := by decide +kernel
theorem dX4_spreadNow_65 : decode cX4_spreadNow 65 = .ok (.goto (-49), 3) := by decide +kernel
theorem dX4_spreadNow_68 : decode cX4_spreadNow 68 = .ok (.iinc 3 1, 3) := by decide +kernel
theorem dX4_spreadNow_71 : decode cX4_spreadNow 71 = .ok (.goto (-66), 3) := by decide +kernel
theorem dX4_spreadNow_74 : decode cX4_spreadNow 74 = .ok (.iload_n 2, 1) := by decide +kernel
theorem dX4_spreadNow_75 : decode cX4_spreadNow 75 = .ok (.ireturn, 1) := by decide +kernel
set_option maxRecDepth 20000 in
theorem ggX4_spread_X4_within : GoodIn wsX4_spread wsX4_within := goodIn_r _ [7] (by decide +kernel) (by decide +kernel)
set_option maxRecDepth 20000 in
theorem gX4_spread_X4_within : GoodIn wsX4_spread (va_wsS RX4 75 yX4_within wsX4_within) := goodIn_app (goodIn_of _ (by decide +kernel)) ggX4_spread_X4_within
set_option maxRecDepth 20000 in
theorem ggX4_spread_X4_spreadNow : GoodIn wsX4_spread wsX4_spreadNow := goodIn_r _ [11, 12, 2, 13, 14, 15, 6, 16, 17, 18, 19, 20, 21, 22, 23, 24, 25, 4, 5, 7, 26, 27, 28, 29, 30, 31, 32, 33, 34, 35, 36, 37, 38, 39, 40, 41, 42, 43, 44, 45, 46, 47, 48, 49, 50, 51, 52, 53, 54, 55, 56, 57, 58, 59, 60, 61, 62, 63, 64, 65, 66, 67, 68, 69] (by decide +kernel) (by decide +kernel)
set_option maxRecDepth 20000 in
theorem gX4_spread_X4_spreadNow : GoodIn wsX4_spread (wsV RX4 190 RX4 yX4_spreadNow wsX4_spreadNow) := goodIn_app (goodIn_of _ (by decide +kernel)) ggX4_spread_X4_spreadNow
theorem dX4_spread_0 : decode cX4_spread 0 = .ok (.iload_n 1, 1) := by decide +kernel
theorem dX4_spread_1 : decode cX4_spread 1 = .ok (.iconst 1, 1) := by decide +kernel
theorem dX4_spread_2 : decode cX4_spread 2 = .ok (.iconst 5, 1) := by decide +kernel
theorem dX4_spread_3 : decode cX4_spread 3 = .ok (.invokestatic 75, 3) := by decide +kernel
theorem dX4_spread_6 : decode cX4_spread 6 = .ok (.ifCond .ne 6, 3) := by decide +kernel
theorem dX4_spread_9 : decode cX4_spread 9 = .ok (.ldc 79, 2) := by decide +kernel
theorem dX4_spread_11 : decode cX4_spread 11 = .ok (.ireturn, 1) := by decide +kernel
theorem dX4_spread_12 : decode cX4_spread 12 = .ok (.aload_n 0, 1) := by decide +kernel
theorem dX4_spread_13 : decode cX4_spread 13 = .ok (.getfield 112, 3) := by decide +kernel
theorem dX4_spread_16 : decode cX4_spread 16 = .ok (.ifCond .ne 8, 3) := by decide +kernel
theorem dX4_spread_19 : decode cX4_spread 19 = .ok (.ldc 111, 2) := by decide +kernel
theorem dX4_spread_21 : decode cX4_spread 21 = .ok (.goto 8, 3) := by decide +kernel
theorem dX4_spread_24 : decode cX4_spread 24 = .ok (.aload_n 0, 1) := by decide +kernel
theorem dX4_spread_25 : decode cX4_spread 25 = .ok (.iload_n 1, 1) := by decide +kernel
theorem dX4_spread_26 : decode cX4_spread 26 = .ok (.invokevirtual 190, 3) := by decide +kernel
theorem dX4_spread_29 : decode cX4_spread 29 = .ok (.ireturn, 1) := by decide +kernel
theorem dX4_setAside_0 : decode cX4_setAside 0 = .ok (.iconst 0, 1) := by decide +kernel
theorem dX4_setAside_1 : decode cX4_setAside 1 = .ok (.istore_n 1, 1) := by decide +kernel
theorem dX4_setAside_2 : decode cX4_setAside 2 = .ok (.iload_n 1, 1) := by decide +kernel
theorem dX4_setAside_3 : decode cX4_setAside 3 = .ok (.bipush 24, 2) := by decide +kernel
theorem dX4_setAside_5 : decode cX4_setAside 5 = .ok (.if_icmp .ge 21, 3) := by decide +kernel
theorem dX4_setAside_8 : decode cX4_setAside 8 = .ok (.aload_n 0, 1) := by decide +kernel
theorem dX4_setAside_9 : decode cX4_setAside 9 = .ok (.getfield 45, 3) := by decide +kernel
theorem dX4_setAside_12 : decode cX4_setAside 12 = .ok (.iload_n 1, 1) := by decide +kernel
theorem dX4_setAside_13 : decode cX4_setAside 13 = .ok (.aload_n 0, 1) := by decide +kernel
theorem dX4_setAside_14 : decode cX4_setAside 14 = .ok (.getfield 22, 3) := by decide +kernel
theorem dX4_setAside_17 : decode cX4_setAside 17 = .ok (.iload_n 1, 1) := by decide +kernel
theorem dX4_setAside_18 : decode cX4_setAside 18 = .ok (.iaload, 1) := by decide +kernel
theorem dX4_setAside_19 : decode cX4_setAside 19 = .ok (.iastore, 1) := by decide +kernel
theorem dX4_setAside_20 : decode cX4_setAside 20 = .ok (.iinc 1 1, 3) := by decide +kernel
theorem dX4_setAside_23 : decode cX4_setAside 23 = .ok (.goto (-21), 3) := by decide +kernel
theorem dX4_setAside_26 : decode cX4_setAside 26 = .ok (.iconst 0, 1) := by decide +kernel
theorem dX4_setAside_27 : decode cX4_setAside 27 = .ok (.istore_n 1, 1) := by decide +kernel
theorem dX4_setAside_28 : decode cX4_setAside 28 = .ok (.iload_n 1, 1) := by decide +kernel
theorem dX4_setAside_29 : decode cX4_setAside 29 = .ok (.bipush 6, 2) := by decide +kernel
theorem dX4_setAside_31 : decode cX4_setAside 31 = .ok (.if_icmp .ge 45, 3) := by decide +kernel
theorem dX4_setAside_34 : decode cX4_setAside 34 = .ok (.aload_n 0, 1) := by decide +kernel
theorem dX4_setAside_35 : decode cX4_setAside 35 = .ok (.getfield 48, 3) := by decide +kernel
theorem dX4_setAside_38 : decode cX4_setAside 38 = .ok (.iload_n 1, 1) := by decide +kernel
theorem dX4_setAside_39 : decode cX4_setAside 39 = .ok (.aload_n 0, 1) := by decide +kernel
theorem dX4_setAside_40 : decode cX4_setAside 40 = .ok (.getfield 19, 3) := by decide +kernel
theorem dX4_setAside_43 : decode cX4_setAside 43 = .ok (.iload_n 1, 1) := by decide +kernel
theorem dX4_setAside_44 : decode cX4_setAside 44 = .ok (.iaload, 1) := by decide +kernel
theorem dX4_setAside_45 : decode cX4_setAside 45 = .ok (.iastore, 1) := by decide +kernel
theorem dX4_setAside_46 : decode cX4_setAside 46 = .ok (.aload_n 0, 1) := by decide +kernel
theorem dX4_setAside_47 : decode cX4_setAside 47 = .ok (.getfield 51, 3) := by decide +kernel
theorem dX4_setAside_50 : decode cX4_setAside 50 = .ok (.iload_n 1, 1) := by decide +kernel
theorem dX4_setAside_51 : decode cX4_setAside 51 = .ok (.aload_n 0, 1) := by decide +kernel
theorem dX4_setAside_52 : decode cX4_setAside 52 = .ok (.getfield 25, 3) := by decide +kernel
theorem dX4_setAside_55 : decode cX4_setAside 55 = .ok (.iload_n 1, 1) := by decide +kernel
theorem dX4_setAside_56 : decode cX4_setAside 56 = .ok (.baload, 1) := by decide +kernel
theorem dX4_setAside_57 : decode cX4_setAside 57 = .ok (.bastore, 1) := by decide +kernel
theorem dX4_setAside_58 : decode cX4_setAside 58 = .ok (.aload_n 0, 1) := by decide +kernel
theorem dX4_setAside_59 : decode cX4_setAside 59 = .ok (.getfield 54, 3) := by decide +kernel
theorem dX4_setAside_62 : decode cX4_setAside 62 = .ok (.iload_n 1, 1) := by decide +kernel
theorem dX4_setAside_63 : decode cX4_setAside 63 = .ok (.aload_n 0, 1) := by decide +kernel
theorem dX4_setAside_64 : decode cX4_setAside 64 = .ok (.getfield 29, 3) := by decide +kernel
theorem dX4_setAside_67 : decode cX4_setAside 67 = .ok (.iload_n 1, 1) := by decide +kernel
theorem dX4_setAside_68 : decode cX4_setAside 68 = .ok (.iaload, 1) := by decide +kernel
theorem dX4_setAside_69 : decode cX4_setAside 69 = .ok (.iastore, 1) := by decide +kernel
theorem dX4_setAside_70 : decode cX4_setAside 70 = .ok (.iinc 1 1, 3) := by decide +kernel
theorem dX4_setAside_73 : decode cX4_setAside 73 = .ok (.goto (-45), 3) := by decide +kernel
theorem dX4_setAside_76 : decode cX4_setAside 76 = .ok (.return_, 1) := by decide +kernel
theorem dX4_setBack_0 : decode cX4_setBack 0 = .ok (.iconst 0, 1) := by decide +kernel
theorem dX4_setBack_1 : decode cX4_setBack 1 = .ok (.istore_n 1, 1) := by decide +kernel
theorem dX4_setBack_2 : decode cX4_setBack 2 = .ok (.iload_n 1, 1) := by decide +kernel
theorem dX4_setBack_3 : decode cX4_setBack 3 = .ok (.bipush 24, 2) := by decide +kernel
theorem dX4_setBack_5 : decode cX4_setBack 5 = .ok (.if_icmp .ge 21, 3) := by decide +kernel
theorem dX4_setBack_8 : decode cX4_setBack 8 = .ok (.aload_n 0, 1) := by decide +kernel
theorem dX4_setBack_9 : decode cX4_setBack 9 = .ok (.getfield 22, 3) := by decide +kernel
theorem dX4_setBack_12 : decode cX4_setBack 12 = .ok (.iload_n 1, 1) := by decide +kernel
theorem dX4_setBack_13 : decode cX4_setBack 13 = .ok (.aload_n 0, 1) := by decide +kernel
theorem dX4_setBack_14 : decode cX4_setBack 14 = .ok (.getfield 45, 3) := by decide +kernel
theorem dX4_setBack_17 : decode cX4_setBack 17 = .ok (.iload_n 1, 1) := by decide +kernel
theorem dX4_setBack_18 : decode cX4_setBack 18 = .ok (.iaload, 1) := by decide +kernel
theorem dX4_setBack_19 : decode cX4_setBack 19 = .ok (.iastore, 1) := by decide +kernel
theorem dX4_setBack_20 : decode cX4_setBack 20 = .ok (.iinc 1 1, 3) := by decide +kernel
theorem dX4_setBack_23 : decode cX4_setBack 23 = .ok (.goto (-21), 3) := by decide +kernel
theorem dX4_setBack_26 : decode cX4_setBack 26 = .ok (.iconst 0, 1) := by decide +kernel
theorem dX4_setBack_27 : decode cX4_setBack 27 = .ok (.istore_n 1, 1) := by decide +kernel
theorem dX4_setBack_28 : decode cX4_setBack 28 = .ok (.iload_n 1, 1) := by decide +kernel
theorem dX4_setBack_29 : decode cX4_setBack 29 = .ok (.bipush 6, 2) := by decide +kernel
theorem dX4_setBack_31 : decode cX4_setBack 31 = .ok (.if_icmp .ge 45, 3) := by decide +kernel
theorem dX4_setBack_34 : decode cX4_setBack 34 = .ok (.aload_n 0, 1) := by decide +kernel
theorem dX4_setBack_35 : decode cX4_setBack 35 = .ok (.getfield 19, 3) := by decide +kernel
theorem dX4_setBack_38 : decode cX4_setBack 38 = .ok (.iload_n 1, 1) := by decide +kernel
theorem dX4_setBack_39 : decode cX4_setBack 39 = .ok (.aload_n 0, 1) := by decide +kernel
theorem dX4_setBack_40 : decode cX4_setBack 40 = .ok (.getfield 48, 3) := by decide +kernel
theorem dX4_setBack_43 : decode cX4_setBack 43 = .ok (.iload_n 1, 1) := by decide +kernel
theorem dX4_setBack_44 : decode cX4_setBack 44 = .ok (.iaload, 1) := by decide +kernel
theorem dX4_setBack_45 : decode cX4_setBack 45 = .ok (.iastore, 1) := by decide +kernel
theorem dX4_setBack_46 : decode cX4_setBack 46 = .ok (.aload_n 0, 1) := by decide +kernel
theorem dX4_setBack_47 : decode cX4_setBack 47 = .ok (.getfield 25, 3) := by decide +kernel
theorem dX4_setBack_50 : decode cX4_setBack 50 = .ok (.iload_n 1, 1) := by decide +kernel
theorem dX4_setBack_51 : decode cX4_setBack 51 = .ok (.aload_n 0, 1) := by decide +kernel
theorem dX4_setBack_52 : decode cX4_setBack 52 = .ok (.getfield 51, 3) := by decide +kernel
theorem dX4_setBack_55 : decode cX4_setBack 55 = .ok (.iload_n 1, 1) := by decide +kernel
theorem dX4_setBack_56 : decode cX4_setBack 56 = .ok (.baload, 1) := by decide +kernel
theorem dX4_setBack_57 : decode cX4_setBack 57 = .ok (.bastore, 1) := by decide +kernel
theorem dX4_setBack_58 : decode cX4_setBack 58 = .ok (.aload_n 0, 1) := by decide +kernel
theorem dX4_setBack_59 : decode cX4_setBack 59 = .ok (.getfield 29, 3) := by decide +kernel
theorem dX4_setBack_62 : decode cX4_setBack 62 = .ok (.iload_n 1, 1) := by decide +kernel
theorem dX4_setBack_63 : decode cX4_setBack 63 = .ok (.aload_n 0, 1) := by decide +kernel
theorem dX4_setBack_64 : decode cX4_setBack 64 = .ok (.getfield 54, 3) := by decide +kernel
theorem dX4_setBack_67 : decode cX4_setBack 67 = .ok (.iload_n 1, 1) := by decide +kernel
theorem dX4_setBack_68 : decode cX4_setBack 68 = .ok (.iaload, 1) := by decide +kernel
theorem dX4_setBack_69 : decode cX4_setBack 69 = .ok (.iastore, 1) := by decide +kernel
theorem dX4_setBack_70 : decode cX4_setBack 70 = .ok (.iinc 1 1, 3) := by decide +kernel
theorem dX4_setBack_73 : decode cX4_setBack 73 = .ok (.goto (-45), 3) := by decide +kernel
theorem dX4_setBack_76 : decode cX4_setBack 76 = .ok (.return_, 1) := by decide +kernel
set_option maxRecDepth 20000 in
theorem ggX4_layWorst_X4_setAside : GoodIn wsX4_layWorst wsX4_setAside := goodIn_r _ [10, 11, 12, 13, 5, 14, 15, 16, 17, 74, 75, 76, 77, 78, 79, 80, 81, 82, 83, 84, 85, 86, 87, 88, 89, 90, 91, 92, 93, 94, 95, 96, 97, 98, 99, 100, 101, 102, 103, 104, 105, 106, 107, 108, 109, 110, 111, 112] (by decide +kernel) (by decide +kernel)
set_option maxRecDepth 20000 in
theorem gX4_layWorst_X4_setAside : GoodIn wsX4_layWorst (wsV RX4 199 RX4 yX4_setAside wsX4_setAside) := goodIn_app (goodIn_of _ (by decide +kernel)) ggX4_layWorst_X4_setAside
set_option maxRecDepth 20000 in
theorem ggX4_layWorst_X4_tick : GoodIn wsX4_layWorst wsX4_tick := goodIn_r _ [21, 4, 22, 1, 15, 17, 12, 5, 23, 24, 25, 26, 9, 27, 28, 29, 30, 31, 32, 33, 34, 35, 36, 37, 38, 39, 40, 41, 42, 43, 44, 45, 46, 47, 48, 49, 50, 51, 52, 53, 54, 55, 56, 57, 58, 59, 60, 61, 74, 75, 76, 77, 78, 79, 80, 81, 82, 83, 84, 85, 86, 87, 88, 89, 90, 91, 92, 93, 94, 95, 96, 97, 98, 99, 100, 101, 102, 103, 104, 105, 106, 107, 108, 109, 110, 111, 112] (by decide +kernel) (by decide +kernel)
set_option maxRecDepth 20000 in
theorem gX4_layWorst_X4_tick : GoodIn wsX4_layWorst (wsV RX4 166 RX4 yX4_tick wsX4_tick) := goodIn_app (goodIn_of _ (by decide +kernel)) ggX4_layWorst_X4_tick
set_option maxRecDepth 20000 in
theorem ggX4_layWorst_X4_local : GoodIn wsX4_layWorst wsX4_local := goodIn_r _ [65, 4, 32, 33, 34, 9, 35, 36, 1, 37, 38, 39, 40, 41, 42, 43, 66, 67, 68, 69, 12, 74, 75, 76, 77, 78, 79, 80, 81, 82, 83, 84, 85, 86, 87, 88, 89, 90, 91, 92, 93, 94, 95, 96, 97, 98, 99, 100, 101, 102, 103, 104, 105, 106, 107, 108, 109, 110, 111, 112] (by decide +kernel) (by decide +kernel)
set_option maxRecDepth 20000 in
theorem gX4_layWorst_X4_local : GoodIn wsX4_layWorst (wsV RX4 172 RX4 yX4_local wsX4_local) := goodIn_app (goodIn_of _ (by decide +kernel)) ggX4_layWorst_X4_local
set_option maxRecDepth 20000 in
theorem ggX4_layWorst_X4_setBack : GoodIn wsX4_layWorst wsX4_setBack := goodIn_r _ [73, 12, 11, 5, 13, 15, 14, 17, 16, 74, 75, 76, 77, 78, 79, 80, 81, 82, 83, 84, 85, 86, 87, 88, 89, 90, 91, 92, 93, 94, 95, 96, 97, 98, 99, 100, 101, 102, 103, 104, 105, 106, 107, 108, 109, 110, 111, 112] (by decide +kernel) (by decide +kernel)
set_option maxRecDepth 20000 in
theorem gX4_layWorst_X4_setBack : GoodIn wsX4_layWorst (wsV RX4 202 RX4 yX4_setBack wsX4_setBack) := goodIn_app (goodIn_of _ (by decide +kernel)) ggX4_layWorst_X4_setBack
theorem dX4_layWorst_0 : decode cX4_layWorst 0 = .ok (.aload_n 0, 1) := by decide +kernel
theorem dX4_layWorst_1 : decode cX4_layWorst 1 = .ok (.ldc 96, 2) := by decide +kernel
theorem dX4_layWorst_3 : decode cX4_layWorst 3 = .ok (.putfield 193, 3) := by decide +kernel
theorem dX4_layWorst_6 : decode cX4_layWorst 6 = .ok (.aload_n 0, 1) := by decide +kernel
theorem dX4_layWorst_7 : decode cX4_layWorst 7 = .ok (.iconst 0, 1) := by decide +kernel
theorem dX4_layWorst_8 : decode cX4_layWorst 8 = .ok (.putfield 196, 3) := by decide +kernel
theorem dX4_layWorst_11 : decode cX4_layWorst 11 = .ok (.aload_n 0, 1) := by decide +kernel
theorem dX4_layWorst_12 : decode cX4_layWorst 12 = .ok (.invokevirtual 199, 3) := by decide +kernel
theorem dX4_layWorst_15 : decode cX4_layWorst 15 = .ok (.iconst 0, 1) := by decide +kernel
theorem dX4_layWorst_16 : decode cX4_layWorst 16 = .ok (.istore_n 2, 1) := by decide +kernel
theorem dX4_layWorst_17 : decode cX4_layWorst 17 = .ok (.iload_n 2, 1) := by decide +kernel
theorem dX4_layWorst_18 : decode cX4_layWorst 18 = .ok (.iconst 1, 1) := by decide +kernel
theorem dX4_layWorst_19 : decode cX4_layWorst 19 = .ok (.aload_n 0, 1) := by decide +kernel
theorem dX4_layWorst_20 : decode cX4_layWorst 20 = .ok (.getfield 112, 3) := by decide +kernel
theorem dX4_layWorst_23 : decode cX4_layWorst 23 = .ok (.ishl, 1) := by decide +kernel
theorem dX4_layWorst_24 : decode cX4_layWorst 24 = .ok (.if_icmp .ge 129, 3) := by decide +kernel
theorem dX4_layWorst_27 : decode cX4_layWorst 27 = .ok (.iconst 0, 1) := by decide +kernel
theorem dX4_layWorst_28 : decode cX4_layWorst 28 = .ok (.istore_n 3, 1) := by decide +kernel
theorem dX4_layWorst_29 : decode cX4_layWorst 29 = .ok (.iload_n 3, 1) := by decide +kernel
theorem dX4_layWorst_30 : decode cX4_layWorst 30 = .ok (.aload_n 0, 1) := by decide +kernel
theorem dX4_layWorst_31 : decode cX4_layWorst 31 = .ok (.getfield 112, 3) := by decide +kernel
theorem dX4_layWorst_34 : decode cX4_layWorst 34 = .ok (.if_icmp .ge 31, 3) := by decide +kernel
theorem dX4_layWorst_37 : decode cX4_layWorst 37 = .ok (.aload_n 0, 1) := by decide +kernel
theorem dX4_layWorst_38 : decode cX4_layWorst 38 = .ok (.getfield 19, 3) := by decide +kernel
theorem dX4_layWorst_41 : decode cX4_layWorst 41 = .ok (.iload_n 3, 1) := by decide +kernel
theorem dX4_layWorst_42 : decode cX4_layWorst 42 = .ok (.iload_n 2, 1) := by decide +kernel
theorem dX4_layWorst_43 : decode cX4_layWorst 43 = .ok (.iload_n 3, 1) := by decide +kernel
theorem dX4_layWorst_44 : decode cX4_layWorst 44 = .ok (.ishr, 1) := by decide +kernel
theorem dX4_layWorst_45 : decode cX4_layWorst 45 = .ok (.iconst 1, 1) := by decide +kernel
theorem dX4_layWorst_46 : decode cX4_layWorst 46 = .ok (.iand, 1) := by decide +kernel
theorem dX4_layWorst_47 : decode cX4_layWorst 47 = .ok (.iconst 1, 1) := by decide +kernel
theorem dX4_layWorst_48 : decode cX4_layWorst 48 = .ok (.if_icmp .ne 8, 3) := by decide +kernel
theorem dX4_layWorst_51 : decode cX4_layWorst 51 = .ok (.bipush 110, 2) := by decide +kernel
theorem dX4_layWorst_53 : decode cX4_layWorst 53 = .ok (.goto 5, 3) := by decide +kernel
theorem dX4_layWorst_56 : decode cX4_layWorst 56 = .ok (.bipush 90, 2) := by decide +kernel
theorem dX4_layWorst_58 : decode cX4_layWorst 58 = .ok (.iastore, 1) := by decide +kernel
theorem dX4_layWorst_59 : decode cX4_layWorst 59 = .ok (.iinc 3 1, 3) := by decide +kernel
theorem dX4_layWorst_62 : decode cX4_layWorst 62 = .ok (.goto (-33), 3) := by decide +kernel
theorem dX4_layWorst_65 : decode cX4_layWorst 65 = .ok (.iconst 0, 1) := by decide +kernel
theorem dX4_layWorst_66 : decode cX4_layWorst 66 = .ok (.istore_n 3, 1) := by decide +kernel
theorem dX4_layWorst_67 : decode cX4_layWorst 67 = .ok (.iload_n 3, 1) := by decide +kernel
theorem dX4_layWorst_68 : decode cX4_layWorst 68 = .ok (.iload_n 1, 1) := by decide +kernel
theorem dX4_layWorst_69 : decode cX4_layWorst 69 = .ok (.if_icmp .ge 13, 3) := by decide +kernel
theorem dX4_layWorst_72 : decode cX4_layWorst 72 = .ok (.aload_n 0, 1) := by decide +kernel
theorem dX4_layWorst_73 : decode cX4_layWorst 73 = .ok (.invokevirtual 166, 3) := by decide +kernel
theorem dX4_layWorst_76 : decode cX4_layWorst 76 = .ok (.iinc 3 1, 3) := by decide +kernel
theorem dX4_layWorst_79 : decode cX4_layWorst 79 = .ok (.goto (-12), 3) := by decide +kernel
theorem dX4_layWorst_82 : decode cX4_layWorst 82 = .ok (.aload_n 0, 1) := by decide +kernel
theorem dX4_layWorst_83 : decode cX4_layWorst 83 = .ok (.getfield 193, 3) := by decide +kernel
theorem dX4_layWorst_86 : decode cX4_layWorst 86 = .ok (.ldc 96, 2) := by decide +kernel
theorem dX4_layWorst_88 : decode cX4_layWorst 88 = .ok (.if_icmp .eq 14, 3) := by decide +kernel
theorem dX4_layWorst_91 : decode cX4_layWorst 91 = .ok (.aload_n 0, 1) := by decide +kernel
theorem dX4_layWorst_92 : decode cX4_layWorst 92 = .ok (.invokevirtual 172, 3) := by decide +kernel
theorem dX4_layWorst_95 : decode cX4_layWorst 95 = .ok (.aload_n 0, 1) := by decide +kernel
theorem dX4_layWorst_96 : decode cX4_layWorst 96 = .ok (.getfield 193, 3) := by decide +kernel
theorem dX4_layWorst_99 : decode cX4_layWorst 99 = .ok (.if_icmp .le 7, 3) := by decide +kernel
theorem dX4_layWorst_102 : decode cX4_layWorst 102 = .ok (.iconst 1, 1) := by decide +kernel
theorem dX4_layWorst_103 : decode cX4_layWorst 103 = .ok (.goto 4, 3) := by decide +kernel
theorem dX4_layWorst_106 : decode cX4_layWorst 106 = .ok (.iconst 0, 1) := by decide +kernel
theorem dX4_layWorst_107 : decode cX4_layWorst 107 = .ok (.istore_n 3, 1) := by decide +kernel
theorem dX4_layWorst_108 : decode cX4_layWorst 108 = .ok (.aload_n 0, 1) := by decide +kernel
theorem dX4_layWorst_109 : decode cX4_layWorst 109 = .ok (.iload_n 3, 1) := by decide +kernel
theorem dX4_layWorst_110 : decode cX4_layWorst 110 = .ok (.ifCond .eq 10, 3) := by decide +kernel
theorem dX4_layWorst_113 : decode cX4_layWorst 113 = .ok (.aload_n 0, 1) := by decide +kernel
theorem dX4_layWorst_114 : decode cX4_layWorst 114 = .ok (.invokevirtual 172, 3) := by decide +kernel
theorem dX4_layWorst_117 : decode cX4_layWorst 117 = .ok (.goto 7, 3) := by decide +kernel
theorem dX4_layWorst_120 : decode cX4_layWorst 120 = .ok (.aload_n 0, 1) := by decide +kernel
theorem dX4_layWorst_121 : decode cX4_layWorst 121 = .ok (.getfield 193, 3) := by decide +kernel
theorem dX4_layWorst_124 : decode cX4_layWorst 124 = .ok (.putfield 193, 3) := by decide +kernel
theorem dX4_layWorst_127 : decode cX4_layWorst 127 = .ok (.aload_n 0, 1) := by decide +kernel
theorem dX4_layWorst_128 : decode cX4_layWorst 128 = .ok (.iload_n 3, 1) := by decide +kernel
theorem dX4_layWorst_129 : decode cX4_layWorst 129 = .ok (.ifCond .eq 7, 3) := by decide +kernel
theorem dX4_layWorst_132 : decode cX4_layWorst 132 = .ok (.iload_n 2, 1) := by decide +kernel
theorem dX4_layWorst_133 : decode cX4_layWorst 133 = .ok (.goto 7, 3) := by decide +kernel
theorem dX4_layWorst_136 : decode cX4_layWorst 136 = .ok (.aload_n 0, 1) := by decide +kernel
theorem dX4_layWorst_137 : decode cX4_layWorst 137 = .ok (.getfield 196, 3) := by decide +kernel
theorem dX4_layWorst_140 : decode cX4_layWorst 140 = .ok (.putfield 196, 3) := by decide +kernel
theorem dX4_layWorst_143 : decode cX4_layWorst 143 = .ok (.aload_n 0, 1) := by decide +kernel
theorem dX4_layWorst_144 : decode cX4_layWorst 144 = .ok (.invokevirtual 202, 3) := by decide +kernel
theorem dX4_layWorst_147 : decode cX4_layWorst 147 = .ok (.iinc 2 1, 3) := by decide +kernel
theorem dX4_layWorst_150 : decode cX4_layWorst 150 = .ok (.goto (-133), 3) := by decide +kernel
theorem dX4_layWorst_153 : decode cX4_layWorst 153 = .ok (.return_, 1) := by decide +kernel
set_option maxRecDepth 20000 in
theorem ggX4_worstNow_X4_layWorst : GoodIn wsX4_worstNow wsX4_layWorst := goodIn_r _ [7, 8, 1, 2, 9, 10, 11, 12, 13, 6, 14, 15, 16, 17, 18, 19, 20, 21, 22, 23, 24, 25, 26, 27, 28, 29, 30, 31, 32, 33, 34, 35, 36, 37, 38, 39, 40, 41, 42, 43, 44, 45, 46, 47, 48, 49, 50, 51, 52, 53, 54, 55, 56, 57, 58, 59, 60, 61, 62, 63, 64, 65, 66, 67, 68, 69, 70, 71, 72, 73, 74, 75, 76, 77, 78, 79, 80, 81, 82, 83, 84, 85, 86, 87, 88, 89, 90, 91, 92, 93, 94, 95, 96, 97, 98, 99, 100, 101, 102, 103, 104, 105, 106, 107, 108, 109, 110, 111, 112, 113, 114, 115, 116] (by decide +kernel) (by decide +kernel)
set_option maxRecDepth 20000 in
theorem gX4_worstNow_X4_layWorst : GoodIn wsX4_worstNow (wsV RX4 205 RX4 yX4_layWorst wsX4_layWorst) := goodIn_app (goodIn_of _ (by decide +kernel)) ggX4_worstNow_X4_layWorst
theorem dX4_worstNow_0 : decode cX4_worstNow 0 = .ok (.aload_n 0, 1) := by decide +kernel
theorem dX4_worstNow_1 : decode cX4_worstNow 1 = .ok (.iload_n 1, 1) := by decide +kernel
theorem dX4_worstNow_2 : decode cX4_worstNow 2 = .ok (.invokevirtual 205, 3) := by decide +kernel
theorem dX4_worstNow_5 : decode cX4_worstNow 5 = .ok (.iload_n 2, 1) := by decide +kernel
theorem dX4_worstNow_6 : decode cX4_worstNow 6 = .ok (.ifCond .ne 10, 3) := by decide +kernel
theorem dX4_worstNow_9 : decode cX4_worstNow 9 = .ok (.aload_n 0, 1) := by decide +kernel
theorem dX4_worstNow_10 : decode cX4_worstNow 10 = .ok (.getfield 193, 3) := by decide +kernel
theorem dX4_worstNow_13 : decode cX4_worstNow 13 = .ok (.goto 7, 3) := by decide +kernel
theorem dX4_worstNow_16 : decode cX4_worstNow 16 = .ok (.aload_n 0, 1) := by decide +kernel
theorem dX4_worstNow_17 : decode cX4_worstNow 17 = .ok (.getfield 196, 3) := by decide +kernel
theorem dX4_worstNow_20 : decode cX4_worstNow 20 = .ok (.ireturn, 1) := by decide +kernel
set_option maxRecDepth 20000 in
theorem ggX4_worst_X4_within : GoodIn wsX4_worst wsX4_within := goodIn_r _ [7] (by decide +kernel) (by decide +kernel)
set_option maxRecDepth 20000 in
theorem gX4_worst_X4_within : GoodIn wsX4_worst (va_wsS RX4 75 yX4_within wsX4_within) := goodIn_app (goodIn_of _ (by decide +kernel)) ggX4_worst_X4_within
set_option maxRecDepth 20000 in
theorem ggX4_worst_X4_worstNow : GoodIn wsX4_worst wsX4_worstNow := goodIn_r _ [11, 12, 13, 14, 15, 16, 6, 17, 18, 2, 19, 20, 21, 22, 23, 24, 25, 26, 27, 28, 29, 30, 31, 32, 33, 34, 35, 36, 37, 38, 39, 40, 41, 42, 43, 44, 45, 46, 47, 48, 49, 50, 51, 52, 53, 4, 5, 7, 54, 55, 56, 57, 58, 59, 60, 61, 62, 63, 64, 65, 66, 67, 68, 69, 70, 71, 72, 73, 74, 75, 76, 77, 78, 79, 80, 81, 82, 83, 84, 85, 86, 87, 88, 89, 90, 91, 92, 93, 94, 95, 96, 97, 98, 99, 100, 101, 102, 103, 104, 105, 106, 107, 108, 109, 110, 111, 112, 113, 114, 115, 116, 117, 118, 119, 120, 121, 122] (by decide +kernel) (by decide +kernel)
set_option maxRecDepth 20000 in
theorem gX4_worst_X4_worstNow : GoodIn wsX4_worst (wsV RX4 209 RX4 yX4_worstNow wsX4_worstNow) := goodIn_app (goodIn_of _ (by decide +kernel)) ggX4_worst_X4_worstNow
theorem dX4_worst_0 : decode cX4_worst 0 = .ok (.iload_n 1, 1) := by decide +kernel
theorem dX4_worst_1 : decode cX4_worst 1 = .ok (.iconst 1, 1) := by decide +kernel
theorem dX4_worst_2 : decode cX4_worst 2 = .ok (.bipush 12, 2) := by decide +kernel
theorem dX4_worst_4 : decode cX4_worst 4 = .ok (.invokestatic 75, 3) := by decide +kernel
theorem dX4_worst_7 : decode cX4_worst 7 = .ok (.ifCond .eq 12, 3) := by decide +kernel
theorem dX4_worst_10 : decode cX4_worst 10 = .ok (.iload_n 2, 1) := by decide +kernel
theorem dX4_worst_11 : decode cX4_worst 11 = .ok (.iconst 0, 1) := by decide +kernel
theorem dX4_worst_12 : decode cX4_worst 12 = .ok (.iconst 1, 1) := by decide +kernel
theorem dX4_worst_13 : decode cX4_worst 13 = .ok (.invokestatic 75, 3) := by decide +kernel
theorem dX4_worst_16 : decode cX4_worst 16 = .ok (.ifCond .ne 6, 3) := by decide +kernel
theorem dX4_worst_19 : decode cX4_worst 19 = .ok (.ldc 79, 2) := by decide +kernel
theorem dX4_worst_21 : decode cX4_worst 21 = .ok (.ireturn, 1) := by decide +kernel
theorem dX4_worst_22 : decode cX4_worst 22 = .ok (.aload_n 0, 1) := by decide +kernel
theorem dX4_worst_23 : decode cX4_worst 23 = .ok (.getfield 112, 3) := by decide +kernel
theorem dX4_worst_26 : decode cX4_worst 26 = .ok (.ifCond .ne 8, 3) := by decide +kernel
theorem dX4_worst_29 : decode cX4_worst 29 = .ok (.ldc 111, 2) := by decide +kernel
theorem dX4_worst_31 : decode cX4_worst 31 = .ok (.goto 9, 3) := by decide +kernel
theorem dX4_worst_34 : decode cX4_worst 34 = .ok (.aload_n 0, 1) := by decide +kernel
theorem dX4_worst_35 : decode cX4_worst 35 = .ok (.iload_n 1, 1) := by decide +kernel
theorem dX4_worst_36 : decode cX4_worst 36 = .ok (.iload_n 2, 1) := by decide +kernel
theorem dX4_worst_37 : decode cX4_worst 37 = .ok (.invokevirtual 209, 3) := by decide +kernel
theorem dX4_worst_40 : decode cX4_worst 40 = .ok (.ireturn, 1) := by decide +kernel
set_option maxRecDepth 20000 in
theorem ggX4_besideOf_X4_areBeside : GoodIn wsX4_besideOf wsX4_areBeside := goodIn_r _ [6, 7, 8, 9, 10, 11, 5, 12, 1, 13, 14, 15, 16, 17, 18, 19, 20, 21, 22, 23, 24, 25, 26, 27, 28, 29, 30, 31, 32, 33, 34, 35, 36, 37, 38, 39, 40, 41, 42, 43, 44, 45, 46, 47, 48, 49, 50, 51, 52, 53, 54] (by decide +kernel) (by decide +kernel)
set_option maxRecDepth 20000 in
theorem gX4_besideOf_X4_areBeside : GoodIn wsX4_besideOf (wsV RX4 140 RX4 yX4_areBeside wsX4_areBeside) := goodIn_app (goodIn_of _ (by decide +kernel)) ggX4_besideOf_X4_areBeside
theorem dX4_besideOf_0 : decode cX4_besideOf 0 = .ok (.iconst 0, 1) := by decide +kernel
theorem dX4_besideOf_1 : decode cX4_besideOf 1 = .ok (.istore_n 2, 1) := by decide +kernel
theorem dX4_besideOf_2 : decode cX4_besideOf 2 = .ok (.iconst 0, 1) := by decide +kernel
theorem dX4_besideOf_3 : decode cX4_besideOf 3 = .ok (.istore_n 3, 1) := by decide +kernel
theorem dX4_besideOf_4 : decode cX4_besideOf 4 = .ok (.iload_n 3, 1) := by decide +kernel
theorem dX4_besideOf_5 : decode cX4_besideOf 5 = .ok (.aload_n 0, 1) := by decide +kernel
theorem dX4_besideOf_6 : decode cX4_besideOf 6 = .ok (.getfield 112, 3) := by decide +kernel
theorem dX4_besideOf_9 : decode cX4_besideOf 9 = .ok (.if_icmp .ge 26, 3) := by decide +kernel
theorem dX4_besideOf_12 : decode cX4_besideOf 12 = .ok (.iload_n 2, 1) := by decide +kernel
theorem dX4_besideOf_13 : decode cX4_besideOf 13 = .ok (.aload_n 0, 1) := by decide +kernel
theorem dX4_besideOf_14 : decode cX4_besideOf 14 = .ok (.iload_n 1, 1) := by decide +kernel
theorem dX4_besideOf_15 : decode cX4_besideOf 15 = .ok (.iload_n 3, 1) := by decide +kernel
theorem dX4_besideOf_16 : decode cX4_besideOf 16 = .ok (.invokevirtual 140, 3) := by decide +kernel
theorem dX4_besideOf_19 : decode cX4_besideOf 19 = .ok (.ifCond .eq 7, 3) := by decide +kernel
theorem dX4_besideOf_22 : decode cX4_besideOf 22 = .ok (.iconst 1, 1) := by decide +kernel
theorem dX4_besideOf_23 : decode cX4_besideOf 23 = .ok (.goto 4, 3) := by decide +kernel
theorem dX4_besideOf_26 : decode cX4_besideOf 26 = .ok (.iconst 0, 1) := by decide +kernel
theorem dX4_besideOf_27 : decode cX4_besideOf 27 = .ok (.iadd, 1) := by decide +kernel
theorem dX4_besideOf_28 : decode cX4_besideOf 28 = .ok (.istore_n 2, 1) := by decide +kernel
theorem dX4_besideOf_29 : decode cX4_besideOf 29 = .ok (.iinc 3 1, 3) := by decide +kernel
theorem dX4_besideOf_32 : decode cX4_besideOf 32 = .ok (.goto (-28), 3) := by decide +kernel
theorem dX4_besideOf_35 : decode cX4_besideOf 35 = .ok (.iload_n 2, 1) := by decide +kernel
theorem dX4_besideOf_36 : decode cX4_besideOf 36 = .ok (.ireturn, 1) := by decide +kernel
set_option maxRecDepth 20000 in
theorem ggX4_nodeNow_X4_besideOf : GoodIn wsX4_nodeNow wsX4_besideOf := goodIn_r _ [9, 10, 11, 12, 13, 8, 14, 15, 16, 17, 18, 19, 20, 21, 22, 23, 50, 51, 52, 53, 54, 55, 56, 57, 58, 59, 60, 61, 62, 63, 64, 65, 66, 67, 68, 69, 70, 71, 72, 73, 74, 75, 76, 77, 78, 79, 80, 81, 82, 83, 84, 85, 86, 87, 88] (by decide +kernel) (by decide +kernel)
set_option maxRecDepth 20000 in
theorem gX4_nodeNow_X4_besideOf : GoodIn wsX4_nodeNow (wsV RX4 212 RX4 yX4_besideOf wsX4_besideOf) := goodIn_app (goodIn_of _ (by decide +kernel)) ggX4_nodeNow_X4_besideOf
set_option maxRecDepth 20000 in
theorem ggX4_nodeNow_X4_off : GoodIn wsX4_nodeNow wsX4_off := goodIn_r _ [27, 16, 10, 1, 11, 12, 13, 8, 14, 15, 17, 18, 19, 20, 21, 22, 23, 28, 29, 30, 31, 32, 50, 51, 52, 53, 54, 55, 56, 57, 58, 59, 60, 61, 62, 63, 64, 65, 66, 67, 68, 69, 70, 71, 72, 73, 74, 75, 76, 77, 78, 79, 80, 81, 82, 83, 84, 85, 86, 87, 88] (by decide +kernel) (by decide +kernel)
set_option maxRecDepth 20000 in
theorem gX4_nodeNow_X4_off : GoodIn wsX4_nodeNow (wsV RX4 151 RX4 yX4_off wsX4_off) := goodIn_app (goodIn_of _ (by decide +kernel)) ggX4_nodeNow_X4_off
set_option maxRecDepth 20000 in
theorem ggX4_nodeNow_X4_upOf : GoodIn wsX4_nodeNow wsX4_upOf := goodIn_r _ [36, 16, 24, 25, 26, 8, 27, 10, 1, 11, 12, 13, 14, 15, 17, 18, 19, 20, 21, 22, 23, 28, 29, 30, 31, 32, 37, 38, 39, 40, 41, 42, 43, 44, 45, 50, 51, 52, 53, 54, 55, 56, 57, 58, 59, 60, 61, 62, 63, 64, 65, 66, 67, 68, 69, 70, 71, 72, 73, 74, 75, 76, 77, 78, 79, 80, 81, 82, 83, 84, 85, 86, 87, 88] (by decide +kernel) (by decide +kernel)
set_option maxRecDepth 20000 in
theorem gX4_nodeNow_X4_upOf : GoodIn wsX4_nodeNow (wsV RX4 159 RX4 yX4_upOf wsX4_upOf) := goodIn_app (goodIn_of _ (by decide +kernel)) ggX4_nodeNow_X4_upOf
set_option maxRecDepth 20000 in
theorem ggX4_nodeNow_X4_downOf : GoodIn wsX4_nodeNow wsX4_downOf := goodIn_r _ [49, 16, 24, 25, 26, 8, 27, 10, 1, 11, 12, 13, 14, 15, 17, 18, 19, 20, 21, 22, 23, 28, 29, 30, 31, 32, 37, 38, 39, 40, 41, 42, 43, 44, 45, 50, 51, 52, 53, 54, 55, 56, 57, 58, 59, 60, 61, 62, 63, 64, 65, 66, 67, 68, 69, 70, 71, 72, 73, 74, 75, 76, 77, 78, 79, 80, 81, 82, 83, 84, 85, 86, 87, 88] (by decide +kernel) (by decide +kernel)
set_option maxRecDepth 20000 in
theorem gX4_nodeNow_X4_downOf : GoodIn wsX4_nodeNow (wsV RX4 163 RX4 yX4_downOf wsX4_downOf) := goodIn_app (goodIn_of _ (by decide +kernel)) ggX4_nodeNow_X4_downOf
theorem dX4_nodeNow_0 : decode cX4_nodeNow 0 = .ok (.iload_n 2, 1) := by decide +kernel
theorem dX4_nodeNow_1 : decode cX4_nodeNow 1 = .ok (.tableswitch 110 0 7 #[47, 56, 63, 78, 84, 91, 98, 104], 47) := by decide +kernel
theorem dX4_nodeNow_48 : decode cX4_nodeNow 48 = .ok (.aload_n 0, 1) := by decide +kernel
theorem dX4_nodeNow_49 : decode cX4_nodeNow 49 = .ok (.getfield 22, 3) := by decide +kernel
theorem dX4_nodeNow_52 : decode cX4_nodeNow 52 = .ok (.iconst 4, 1) := by decide +kernel
theorem dX4_nodeNow_53 : decode cX4_nodeNow 53 = .ok (.iload_n 1, 1) := by decide +kernel
theorem dX4_nodeNow_54 : decode cX4_nodeNow 54 = .ok (.imul, 1) := by decide +kernel
theorem dX4_nodeNow_55 : decode cX4_nodeNow 55 = .ok (.iaload, 1) := by decide +kernel
theorem dX4_nodeNow_56 : decode cX4_nodeNow 56 = .ok (.ireturn, 1) := by decide +kernel
theorem dX4_nodeNow_57 : decode cX4_nodeNow 57 = .ok (.aload_n 0, 1) := by decide +kernel
theorem dX4_nodeNow_58 : decode cX4_nodeNow 58 = .ok (.getfield 19, 3) := by decide +kernel
theorem dX4_nodeNow_61 : decode cX4_nodeNow 61 = .ok (.iload_n 1, 1) := by decide +kernel
theorem dX4_nodeNow_62 : decode cX4_nodeNow 62 = .ok (.iaload, 1) := by decide +kernel
theorem dX4_nodeNow_63 : decode cX4_nodeNow 63 = .ok (.ireturn, 1) := by decide +kernel
theorem dX4_nodeNow_64 : decode cX4_nodeNow 64 = .ok (.aload_n 0, 1) := by decide +kernel
theorem dX4_nodeNow_65 : decode cX4_nodeNow 65 = .ok (.getfield 25, 3) := by decide +kernel
theorem dX4_nodeNow_68 : decode cX4_nodeNow 68 = .ok (.iload_n 1, 1) := by decide +kernel
theorem dX4_nodeNow_69 : decode cX4_nodeNow 69 = .ok (.baload, 1) := by decide +kernel
theorem dX4_nodeNow_70 : decode cX4_nodeNow 70 = .ok (.ifCond .eq 7, 3) := by decide +kernel
theorem dX4_nodeNow_73 : decode cX4_nodeNow 73 = .ok (.iconst 1, 1) := by decide +kernel
theorem dX4_nodeNow_74 : decode cX4_nodeNow 74 = .ok (.goto 4, 3) := by decide +kernel
theorem dX4_nodeNow_77 : decode cX4_nodeNow 77 = .ok (.iconst 0, 1) := by decide +kernel
theorem dX4_nodeNow_78 : decode cX4_nodeNow 78 = .ok (.ireturn, 1) := by decide +kernel
theorem dX4_nodeNow_79 : decode cX4_nodeNow 79 = .ok (.aload_n 0, 1) := by decide +kernel
theorem dX4_nodeNow_80 : decode cX4_nodeNow 80 = .ok (.iload_n 1, 1) := by decide +kernel
theorem dX4_nodeNow_81 : decode cX4_nodeNow 81 = .ok (.invokevirtual 212, 3) := by decide +kernel
theorem dX4_nodeNow_84 : decode cX4_nodeNow 84 = .ok (.ireturn, 1) := by decide +kernel
theorem dX4_nodeNow_85 : decode cX4_nodeNow 85 = .ok (.aload_n 0, 1) := by decide +kernel
theorem dX4_nodeNow_86 : decode cX4_nodeNow 86 = .ok (.iload_n 1, 1) := by decide +kernel
theorem dX4_nodeNow_87 : decode cX4_nodeNow 87 = .ok (.iconst 1, 1) := by decide +kernel
theorem dX4_nodeNow_88 : decode cX4_nodeNow 88 = .ok (.invokevirtual 151, 3) := by decide +kernel
theorem dX4_nodeNow_91 : decode cX4_nodeNow 91 = .ok (.ireturn, 1) := by decide +kernel
theorem dX4_nodeNow_92 : decode cX4_nodeNow 92 = .ok (.aload_n 0, 1) := by decide +kernel
theorem dX4_nodeNow_93 : decode cX4_nodeNow 93 = .ok (.iload_n 1, 1) := by decide +kernel
theorem dX4_nodeNow_94 : decode cX4_nodeNow 94 = .ok (.iconst 0, 1) := by decide +kernel
theorem dX4_nodeNow_95 : decode cX4_nodeNow 95 = .ok (.invokevirtual 151, 3) := by decide +kernel
theorem dX4_nodeNow_98 : decode cX4_nodeNow 98 = .ok (.ireturn, 1) := by decide +kernel
theorem dX4_nodeNow_99 : decode cX4_nodeNow 99 = .ok (.aload_n 0, 1) := by decide +kernel
theorem dX4_nodeNow_100 : decode cX4_nodeNow 100 = .ok (.iload_n 1, 1) := by decide +kernel
theorem dX4_nodeNow_101 : decode cX4_nodeNow 101 = .ok (.invokevirtual 159, 3) := by decide +kernel
theorem dX4_nodeNow_104 : decode cX4_nodeNow 104 = .ok (.ireturn, 1) := by decide +kernel
theorem dX4_nodeNow_105 : decode cX4_nodeNow 105 = .ok (.aload_n 0, 1) := by decide +kernel
theorem dX4_nodeNow_106 : decode cX4_nodeNow 106 = .ok (.iload_n 1, 1) := by decide +kernel
theorem dX4_nodeNow_107 : decode cX4_nodeNow 107 = .ok (.invokevirtual 163, 3) := by decide +kernel
theorem dX4_nodeNow_110 : decode cX4_nodeNow 110 = .ok (.ireturn, 1) := by decide +kernel
theorem dX4_nodeNow_111 : decode cX4_nodeNow 111 = .ok (.aload_n 0, 1) := by decide +kernel
theorem dX4_nodeNow_112 : decode cX4_nodeNow 112 = .ok (.getfield 29, 3) := by decide +kernel
theorem dX4_nodeNow_115 : decode cX4_nodeNow 115 = .ok (.iload_n 1, 1) := by decide +kernel
theorem dX4_nodeNow_116 : decode cX4_nodeNow 116 = .ok (.iaload, 1) := by decide +kernel
theorem dX4_nodeNow_117 : decode cX4_nodeNow 117 = .ok (.ireturn, 1) := by decide +kernel
set_option maxRecDepth 20000 in
theorem ggX4_node_X4_isNode : GoodIn wsX4_node wsX4_isNode := goodIn_r _ [7, 8, 9, 10, 6, 11, 56, 57, 58, 59, 60, 61, 62, 63, 64, 65, 66, 67, 68, 69, 70, 71, 72, 73, 74, 75, 76, 77, 78, 79, 80, 81, 82, 83, 84, 85, 86, 87, 88, 89, 90, 91, 92, 93, 94] (by decide +kernel) (by decide +kernel)
set_option maxRecDepth 20000 in
theorem gX4_node_X4_isNode : GoodIn wsX4_node (wsV RX4 135 RX4 yX4_isNode wsX4_isNode) := goodIn_app (goodIn_of _ (by decide +kernel)) ggX4_node_X4_isNode
set_option maxRecDepth 20000 in
theorem ggX4_node_X4_within : GoodIn wsX4_node wsX4_within := goodIn_r _ [11] (by decide +kernel) (by decide +kernel)
set_option maxRecDepth 20000 in
theorem gX4_node_X4_within : GoodIn wsX4_node (va_wsS RX4 75 yX4_within wsX4_within) := goodIn_app (goodIn_of _ (by decide +kernel)) ggX4_node_X4_within
set_option maxRecDepth 20000 in
theorem ggX4_node_X4_nodeNow : GoodIn wsX4_node wsX4_nodeNow := goodIn_r _ [15, 16, 17, 18, 19, 20, 21, 22, 6, 23, 8, 24, 25, 26, 27, 28, 29, 3, 4, 5, 7, 9, 10, 11, 30, 31, 32, 33, 34, 35, 36, 37, 38, 39, 40, 41, 42, 43, 44, 45, 46, 47, 48, 49, 50, 51, 52, 53, 54, 55, 56, 57, 58, 59, 60, 61, 62, 63, 64, 65, 66, 67, 68, 69, 70, 71, 72, 73, 74, 75, 76, 77, 78, 79, 80, 81, 82, 83, 84, 85, 86, 87, 88, 89, 90, 91, 92, 93, 94] (by decide +kernel) (by decide +kernel)
set_option maxRecDepth 20000 in
theorem gX4_node_X4_nodeNow : GoodIn wsX4_node (wsV RX4 215 RX4 yX4_nodeNow wsX4_nodeNow) := goodIn_app (goodIn_of _ (by decide +kernel)) ggX4_node_X4_nodeNow
theorem dX4_node_0 : decode cX4_node 0 = .ok (.aload_n 0, 1) := by decide +kernel
theorem dX4_node_1 : decode cX4_node 1 = .ok (.iload_n 1, 1) := by decide +kernel
theorem dX4_node_2 : decode cX4_node 2 = .ok (.invokevirtual 135, 3) := by decide +kernel
theorem dX4_node_5 : decode cX4_node 5 = .ok (.ifCond .ne 6, 3) := by decide +kernel
theorem dX4_node_8 : decode cX4_node 8 = .ok (.ldc 138, 2) := by decide +kernel
theorem dX4_node_10 : decode cX4_node 10 = .ok (.ireturn, 1) := by decide +kernel
theorem dX4_node_11 : decode cX4_node 11 = .ok (.iload_n 2, 1) := by decide +kernel
theorem dX4_node_12 : decode cX4_node 12 = .ok (.iconst 0, 1) := by decide +kernel
theorem dX4_node_13 : decode cX4_node 13 = .ok (.bipush 8, 2) := by decide +kernel
theorem dX4_node_15 : decode cX4_node 15 = .ok (.invokestatic 75, 3) := by decide +kernel
theorem dX4_node_18 : decode cX4_node 18 = .ok (.ifCond .eq 12, 3) := by decide +kernel
theorem dX4_node_21 : decode cX4_node 21 = .ok (.aload_n 0, 1) := by decide +kernel
theorem dX4_node_22 : decode cX4_node 22 = .ok (.iload_n 1, 1) := by decide +kernel
theorem dX4_node_23 : decode cX4_node 23 = .ok (.iload_n 2, 1) := by decide +kernel
theorem dX4_node_24 : decode cX4_node 24 = .ok (.invokevirtual 215, 3) := by decide +kernel
theorem dX4_node_27 : decode cX4_node 27 = .ok (.goto 5, 3) := by decide +kernel
theorem dX4_node_30 : decode cX4_node 30 = .ok (.ldc 79, 2) := by decide +kernel
theorem dX4_node_32 : decode cX4_node 32 = .ok (.ireturn, 1) := by decide +kernel
set_option maxRecDepth 20000 in
theorem ggX4_linkNow_X4_guess : GoodIn wsX4_linkNow wsX4_guess := goodIn_r _ [7, 1, 8, 2, 13, 14, 15, 16, 17, 18, 19, 20, 21, 22, 23, 24, 25, 26, 27, 28, 29, 30, 31, 32, 33, 34, 35, 36, 37, 38, 39, 40, 41, 42, 43, 44, 45, 46, 47, 48, 49, 50, 51] (by decide +kernel) (by decide +kernel)
set_option maxRecDepth 20000 in
theorem gX4_linkNow_X4_guess : GoodIn wsX4_linkNow (wsV RX4 144 RX4 yX4_guess wsX4_guess) := goodIn_app (goodIn_of _ (by decide +kernel)) ggX4_linkNow_X4_guess
set_option maxRecDepth 20000 in
theorem ggX4_linkNow_X4_skewOf : GoodIn wsX4_linkNow wsX4_skewOf := goodIn_r _ [12, 8, 13, 14, 15, 16, 17, 18, 19, 20, 21, 22, 23, 24, 25, 26, 27, 28, 29, 30, 31, 32, 33, 34, 35, 36, 37, 38, 39, 40, 41, 42, 43, 44, 45, 46, 47, 48, 49, 50, 51] (by decide +kernel) (by decide +kernel)
set_option maxRecDepth 20000 in
theorem gX4_linkNow_X4_skewOf : GoodIn wsX4_linkNow (wsV RX4 175 RX4 yX4_skewOf wsX4_skewOf) := goodIn_app (goodIn_of _ (by decide +kernel)) ggX4_linkNow_X4_skewOf
theorem dX4_linkNow_0 : decode cX4_linkNow 0 = .ok (.iload_n 3, 1) := by decide +kernel
theorem dX4_linkNow_1 : decode cX4_linkNow 1 = .ok (.ifCond .ne 17, 3) := by decide +kernel
theorem dX4_linkNow_4 : decode cX4_linkNow 4 = .ok (.aload_n 0, 1) := by decide +kernel
theorem dX4_linkNow_5 : decode cX4_linkNow 5 = .ok (.getfield 13, 3) := by decide +kernel
theorem dX4_linkNow_8 : decode cX4_linkNow 8 = .ok (.bipush 6, 2) := by decide +kernel
theorem dX4_linkNow_10 : decode cX4_linkNow 10 = .ok (.iload_n 1, 1) := by decide +kernel
theorem dX4_linkNow_11 : decode cX4_linkNow 11 = .ok (.imul, 1) := by decide +kernel
theorem dX4_linkNow_12 : decode cX4_linkNow 12 = .ok (.iload_n 2, 1) := by decide +kernel
theorem dX4_linkNow_13 : decode cX4_linkNow 13 = .ok (.iadd, 1) := by decide +kernel
theorem dX4_linkNow_14 : decode cX4_linkNow 14 = .ok (.iaload, 1) := by decide +kernel
theorem dX4_linkNow_15 : decode cX4_linkNow 15 = .ok (.goto 42, 3) := by decide +kernel
theorem dX4_linkNow_18 : decode cX4_linkNow 18 = .ok (.iload_n 3, 1) := by decide +kernel
theorem dX4_linkNow_19 : decode cX4_linkNow 19 = .ok (.iconst 1, 1) := by decide +kernel
theorem dX4_linkNow_20 : decode cX4_linkNow 20 = .ok (.if_icmp .ne 17, 3) := by decide +kernel
theorem dX4_linkNow_23 : decode cX4_linkNow 23 = .ok (.aload_n 0, 1) := by decide +kernel
theorem dX4_linkNow_24 : decode cX4_linkNow 24 = .ok (.getfield 16, 3) := by decide +kernel
theorem dX4_linkNow_27 : decode cX4_linkNow 27 = .ok (.bipush 6, 2) := by decide +kernel
theorem dX4_linkNow_29 : decode cX4_linkNow 29 = .ok (.iload_n 1, 1) := by decide +kernel
theorem dX4_linkNow_30 : decode cX4_linkNow 30 = .ok (.imul, 1) := by decide +kernel
theorem dX4_linkNow_31 : decode cX4_linkNow 31 = .ok (.iload_n 2, 1) := by decide +kernel
theorem dX4_linkNow_32 : decode cX4_linkNow 32 = .ok (.iadd, 1) := by decide +kernel
theorem dX4_linkNow_33 : decode cX4_linkNow 33 = .ok (.iaload, 1) := by decide +kernel
theorem dX4_linkNow_34 : decode cX4_linkNow 34 = .ok (.goto 23, 3) := by decide +kernel
theorem dX4_linkNow_37 : decode cX4_linkNow 37 = .ok (.iload_n 3, 1) := by decide +kernel
theorem dX4_linkNow_38 : decode cX4_linkNow 38 = .ok (.iconst 2, 1) := by decide +kernel
theorem dX4_linkNow_39 : decode cX4_linkNow 39 = .ok (.if_icmp .ne 12, 3) := by decide +kernel
theorem dX4_linkNow_42 : decode cX4_linkNow 42 = .ok (.aload_n 0, 1) := by decide +kernel
theorem dX4_linkNow_43 : decode cX4_linkNow 43 = .ok (.iload_n 1, 1) := by decide +kernel
theorem dX4_linkNow_44 : decode cX4_linkNow 44 = .ok (.iload_n 2, 1) := by decide +kernel
theorem dX4_linkNow_45 : decode cX4_linkNow 45 = .ok (.invokevirtual 144, 3) := by decide +kernel
theorem dX4_linkNow_48 : decode cX4_linkNow 48 = .ok (.goto 9, 3) := by decide +kernel
theorem dX4_linkNow_51 : decode cX4_linkNow 51 = .ok (.aload_n 0, 1) := by decide +kernel
theorem dX4_linkNow_52 : decode cX4_linkNow 52 = .ok (.iload_n 1, 1) := by decide +kernel
theorem dX4_linkNow_53 : decode cX4_linkNow 53 = .ok (.iload_n 2, 1) := by decide +kernel
theorem dX4_linkNow_54 : decode cX4_linkNow 54 = .ok (.invokevirtual 175, 3) := by decide +kernel
theorem dX4_linkNow_57 : decode cX4_linkNow 57 = .ok (.ireturn, 1) := by decide +kernel
set_option maxRecDepth 20000 in
theorem ggX4_link_X4_areBeside : GoodIn wsX4_link wsX4_areBeside := goodIn_r _ [7, 8, 9, 10, 11, 12, 6, 13, 14, 15, 16, 17, 32, 33, 34, 35, 36, 37, 38, 39, 40, 41, 42, 43, 44, 45, 46, 47, 48, 49, 50, 51, 52, 53, 54, 55, 56, 57, 58, 59, 60, 61, 62, 63, 64, 65, 66, 67, 68, 69, 70] (by decide +kernel) (by decide +kernel)
set_option maxRecDepth 20000 in
theorem gX4_link_X4_areBeside : GoodIn wsX4_link (wsV RX4 140 RX4 yX4_areBeside wsX4_areBeside) := goodIn_app (goodIn_of _ (by decide +kernel)) ggX4_link_X4_areBeside
set_option maxRecDepth 20000 in
theorem ggX4_link_X4_within : GoodIn wsX4_link wsX4_within := goodIn_r _ [17] (by decide +kernel) (by decide +kernel)
set_option maxRecDepth 20000 in
theorem gX4_link_X4_within : GoodIn wsX4_link (va_wsS RX4 75 yX4_within wsX4_within) := goodIn_app (goodIn_of _ (by decide +kernel)) ggX4_link_X4_within
set_option maxRecDepth 20000 in
theorem ggX4_link_X4_linkNow : GoodIn wsX4_link wsX4_linkNow := goodIn_r _ [21, 8, 22, 23, 24, 25, 6, 26, 27, 28, 29, 30, 31, 32, 33, 34, 35, 36, 37, 38, 39, 40, 41, 42, 43, 44, 45, 46, 47, 48, 49, 50, 51, 52, 53, 54, 55, 56, 57, 58, 59, 60, 61, 62, 63, 64, 65, 66, 67, 68, 69, 70] (by decide +kernel) (by decide +kernel)
set_option maxRecDepth 20000 in
theorem gX4_link_X4_linkNow : GoodIn wsX4_link (wsV RX4 218 RX4 yX4_linkNow wsX4_linkNow) := goodIn_app (goodIn_of _ (by decide +kernel)) ggX4_link_X4_linkNow
theorem dX4_link_0 : decode cX4_link 0 = .ok (.aload_n 0, 1) := by decide +kernel
theorem dX4_link_1 : decode cX4_link 1 = .ok (.iload_n 1, 1) := by decide +kernel
theorem dX4_link_2 : decode cX4_link 2 = .ok (.iload_n 2, 1) := by decide +kernel
theorem dX4_link_3 : decode cX4_link 3 = .ok (.invokevirtual 140, 3) := by decide +kernel
theorem dX4_link_6 : decode cX4_link 6 = .ok (.ifCond .ne 6, 3) := by decide +kernel
theorem dX4_link_9 : decode cX4_link 9 = .ok (.ldc 138, 2) := by decide +kernel
theorem dX4_link_11 : decode cX4_link 11 = .ok (.ireturn, 1) := by decide +kernel
theorem dX4_link_12 : decode cX4_link 12 = .ok (.iload_n 3, 1) := by decide +kernel
theorem dX4_link_13 : decode cX4_link 13 = .ok (.iconst 0, 1) := by decide +kernel
theorem dX4_link_14 : decode cX4_link 14 = .ok (.iconst 3, 1) := by decide +kernel
theorem dX4_link_15 : decode cX4_link 15 = .ok (.invokestatic 75, 3) := by decide +kernel
theorem dX4_link_18 : decode cX4_link 18 = .ok (.ifCond .eq 13, 3) := by decide +kernel
theorem dX4_link_21 : decode cX4_link 21 = .ok (.aload_n 0, 1) := by decide +kernel
theorem dX4_link_22 : decode cX4_link 22 = .ok (.iload_n 1, 1) := by decide +kernel
theorem dX4_link_23 : decode cX4_link 23 = .ok (.iload_n 2, 1) := by decide +kernel
theorem dX4_link_24 : decode cX4_link 24 = .ok (.iload_n 3, 1) := by decide +kernel
theorem dX4_link_25 : decode cX4_link 25 = .ok (.invokevirtual 218, 3) := by decide +kernel
theorem dX4_link_28 : decode cX4_link 28 = .ok (.goto 5, 3) := by decide +kernel
theorem dX4_link_31 : decode cX4_link 31 = .ok (.ldc 79, 2) := by decide +kernel
theorem dX4_link_33 : decode cX4_link 33 = .ok (.ireturn, 1) := by decide +kernel
theorem dX4_image_0 : decode cX4_image 0 = .ok (.aload_n 0, 1) := by decide +kernel
theorem dX4_image_1 : decode cX4_image 1 = .ok (.getfield 112, 3) := by decide +kernel
theorem dX4_image_4 : decode cX4_image 4 = .ok (.ifCond .ne 6, 3) := by decide +kernel
theorem dX4_image_7 : decode cX4_image 7 = .ok (.ldc 111, 2) := by decide +kernel
theorem dX4_image_9 : decode cX4_image 9 = .ok (.ireturn, 1) := by decide +kernel
