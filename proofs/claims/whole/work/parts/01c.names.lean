theorem dX2_firstFault_0 : decode cX2_firstFault 0 = .ok (.iconst 0, 1) := by decide +kernel
theorem dX2_firstFault_1 : decode cX2_firstFault 1 = .ok (.istore_n 1, 1) := by decide +kernel
theorem dX2_firstFault_2 : decode cX2_firstFault 2 = .ok (.iload_n 1, 1) := by decide +kernel
theorem dX2_firstFault_3 : decode cX2_firstFault 3 = .ok (.aload_n 0, 1) := by decide +kernel
theorem dX2_firstFault_4 : decode cX2_firstFault 4 = .ok (.getfield 15, 3) := by decide +kernel
theorem dX2_firstFault_7 : decode cX2_firstFault 7 = .ok (.if_icmp .ge 19, 3) := by decide +kernel
theorem dX2_firstFault_10 : decode cX2_firstFault 10 = .ok (.aload_n 0, 1) := by decide +kernel
theorem dX2_firstFault_11 : decode cX2_firstFault 11 = .ok (.iload_n 1, 1) := by decide +kernel
theorem dX2_firstFault_12 : decode cX2_firstFault 12 = .ok (.invokevirtual 24, 3) := by decide +kernel
theorem dX2_firstFault_15 : decode cX2_firstFault 15 = .ok (.ifCond .ne 5, 3) := by decide +kernel
theorem dX2_firstFault_18 : decode cX2_firstFault 18 = .ok (.iload_n 1, 1) := by decide +kernel
theorem dX2_firstFault_19 : decode cX2_firstFault 19 = .ok (.ireturn, 1) := by decide +kernel
theorem dX2_firstFault_20 : decode cX2_firstFault 20 = .ok (.iinc 1 1, 3) := by decide +kernel
theorem dX2_firstFault_23 : decode cX2_firstFault 23 = .ok (.goto (-21), 3) := by decide +kernel
theorem dX2_firstFault_26 : decode cX2_firstFault 26 = .ok (.aload_n 0, 1) := by decide +kernel
theorem dX2_firstFault_27 : decode cX2_firstFault 27 = .ok (.getfield 15, 3) := by decide +kernel
theorem dX2_firstFault_30 : decode cX2_firstFault 30 = .ok (.ireturn, 1) := by decide +kernel
set_option maxRecDepth 20000 in
theorem ggX2_isNet_X2_firstFault : GoodIn wsX2_isNet wsX2_firstFault := goodIn_r _ [6, 1, 7, 8, 9, 5, 10, 11, 12, 13, 14, 15, 16, 17, 18, 19, 20, 21, 22, 23, 24, 25, 26, 27, 28, 29, 30, 31, 32, 33] (by decide +kernel) (by decide +kernel)
set_option maxRecDepth 20000 in
theorem gX2_isNet_X2_firstFault : GoodIn wsX2_isNet (wsV RX2 28 RX2 yX2_firstFault wsX2_firstFault) := goodIn_app (goodIn_of _ (by decide +kernel)) ggX2_isNet_X2_firstFault
theorem dX2_isNet_0 : decode cX2_isNet 0 = .ok (.aload_n 0, 1) := by decide +kernel
theorem dX2_isNet_1 : decode cX2_isNet 1 = .ok (.getfield 15, 3) := by decide +kernel
theorem dX2_isNet_4 : decode cX2_isNet 4 = .ok (.iconst 4, 1) := by decide +kernel
theorem dX2_isNet_5 : decode cX2_isNet 5 = .ok (.if_icmp .le 28, 3) := by decide +kernel
theorem dX2_isNet_8 : decode cX2_isNet 8 = .ok (.aload_n 0, 1) := by decide +kernel
theorem dX2_isNet_9 : decode cX2_isNet 9 = .ok (.getfield 15, 3) := by decide +kernel
theorem dX2_isNet_12 : decode cX2_isNet 12 = .ok (.iconst 4, 1) := by decide +kernel
theorem dX2_isNet_13 : decode cX2_isNet 13 = .ok (.irem, 1) := by decide +kernel
theorem dX2_isNet_14 : decode cX2_isNet 14 = .ok (.iconst 1, 1) := by decide +kernel
theorem dX2_isNet_15 : decode cX2_isNet 15 = .ok (.if_icmp .ne 18, 3) := by decide +kernel
theorem dX2_isNet_18 : decode cX2_isNet 18 = .ok (.aload_n 0, 1) := by decide +kernel
theorem dX2_isNet_19 : decode cX2_isNet 19 = .ok (.invokevirtual 28, 3) := by decide +kernel
theorem dX2_isNet_22 : decode cX2_isNet 22 = .ok (.aload_n 0, 1) := by decide +kernel
theorem dX2_isNet_23 : decode cX2_isNet 23 = .ok (.getfield 15, 3) := by decide +kernel
theorem dX2_isNet_26 : decode cX2_isNet 26 = .ok (.if_icmp .ne 7, 3) := by decide +kernel
theorem dX2_isNet_29 : decode cX2_isNet 29 = .ok (.iconst 1, 1) := by decide +kernel
theorem dX2_isNet_30 : decode cX2_isNet 30 = .ok (.goto 4, 3) := by decide +kernel
theorem dX2_isNet_33 : decode cX2_isNet 33 = .ok (.iconst 0, 1) := by decide +kernel
theorem dX2_isNet_34 : decode cX2_isNet 34 = .ok (.ireturn, 1) := by decide +kernel
theorem dX2_howManyLinks_0 : decode cX2_howManyLinks 0 = .ok (.aload_n 0, 1) := by decide +kernel
theorem dX2_howManyLinks_1 : decode cX2_howManyLinks 1 = .ok (.getfield 15, 3) := by decide +kernel
theorem dX2_howManyLinks_4 : decode cX2_howManyLinks 4 = .ok (.iconst 1, 1) := by decide +kernel
theorem dX2_howManyLinks_5 : decode cX2_howManyLinks 5 = .ok (.isub, 1) := by decide +kernel
theorem dX2_howManyLinks_6 : decode cX2_howManyLinks 6 = .ok (.iconst 4, 1) := by decide +kernel
theorem dX2_howManyLinks_7 : decode cX2_howManyLinks 7 = .ok (.idiv, 1) := by decide +kernel
theorem dX2_howManyLinks_8 : decode cX2_howManyLinks 8 = .ok (.ireturn, 1) := by decide +kernel
theorem dX2_placeOfLink_0 : decode cX2_placeOfLink 0 = .ok (.iconst 2, 1) := by decide +kernel
theorem dX2_placeOfLink_1 : decode cX2_placeOfLink 1 = .ok (.iconst 4, 1) := by decide +kernel
theorem dX2_placeOfLink_2 : decode cX2_placeOfLink 2 = .ok (.iload_n 0, 1) := by decide +kernel
theorem dX2_placeOfLink_3 : decode cX2_placeOfLink 3 = .ok (.imul, 1) := by decide +kernel
theorem dX2_placeOfLink_4 : decode cX2_placeOfLink 4 = .ok (.iadd, 1) := by decide +kernel
theorem dX2_placeOfLink_5 : decode cX2_placeOfLink 5 = .ok (.ireturn, 1) := by decide +kernel
set_option maxRecDepth 20000 in
theorem ggX2_fitsAt_X2_digitAt : GoodIn wsX2_fitsAt wsX2_digitAt := goodIn_r _ [5, 6, 7, 8, 4, 9, 10, 11, 12, 24, 25] (by decide +kernel) (by decide +kernel)
set_option maxRecDepth 20000 in
theorem gX2_fitsAt_X2_digitAt : GoodIn wsX2_fitsAt (wsV RX2 32 RX2 yX2_digitAt wsX2_digitAt) := goodIn_app (goodIn_of _ (by decide +kernel)) ggX2_fitsAt_X2_digitAt
set_option maxRecDepth 20000 in
theorem ggX2_fitsAt_X2_letterAt : GoodIn wsX2_fitsAt wsX2_letterAt := goodIn_r _ [9, 10, 11, 12, 24, 25] (by decide +kernel) (by decide +kernel)
set_option maxRecDepth 20000 in
theorem gX2_fitsAt_X2_letterAt : GoodIn wsX2_fitsAt (wsV RX2 20 RX2 yX2_letterAt wsX2_letterAt) := goodIn_app (goodIn_of _ (by decide +kernel)) ggX2_fitsAt_X2_letterAt
set_option maxRecDepth 20000 in
theorem ggX2_fitsAt_X2_isNode : GoodIn wsX2_fitsAt wsX2_isNode := goodIn_r _ [16, 1, 2, 3, 4, 5, 6, 7, 8, 9, 10, 11, 12, 24, 25] (by decide +kernel) (by decide +kernel)
set_option maxRecDepth 20000 in
theorem gX2_fitsAt_X2_isNode : GoodIn wsX2_fitsAt (wsV RX2 35 RX2 yX2_isNode wsX2_isNode) := goodIn_app (goodIn_of _ (by decide +kernel)) ggX2_fitsAt_X2_isNode
set_option maxRecDepth 20000 in
theorem ggX2_fitsAt_X2_isNewLink : GoodIn wsX2_fitsAt wsX2_isNewLink := goodIn_r _ [20, 1, 2, 3, 4, 5, 6, 7, 8, 9, 10, 11, 12, 21, 22, 23, 24, 25] (by decide +kernel) (by decide +kernel)
set_option maxRecDepth 20000 in
theorem gX2_fitsAt_X2_isNewLink : GoodIn wsX2_fitsAt (wsV RX2 38 RX2 yX2_isNewLink wsX2_isNewLink) := goodIn_app (goodIn_of _ (by decide +kernel)) ggX2_fitsAt_X2_isNewLink
theorem dX2_fitsAt_0 : decode cX2_fitsAt 0 = .ok (.aload_n 0, 1) := by decide +kernel
theorem dX2_fitsAt_1 : decode cX2_fitsAt 1 = .ok (.iload_n 1, 1) := by decide +kernel
theorem dX2_fitsAt_2 : decode cX2_fitsAt 2 = .ok (.invokevirtual 32, 3) := by decide +kernel
theorem dX2_fitsAt_5 : decode cX2_fitsAt 5 = .ok (.istore_n 2, 1) := by decide +kernel
theorem dX2_fitsAt_6 : decode cX2_fitsAt 6 = .ok (.iload_n 1, 1) := by decide +kernel
theorem dX2_fitsAt_7 : decode cX2_fitsAt 7 = .ok (.ifCond .ne 20, 3) := by decide +kernel
theorem dX2_fitsAt_10 : decode cX2_fitsAt 10 = .ok (.iload_n 2, 1) := by decide +kernel
theorem dX2_fitsAt_11 : decode cX2_fitsAt 11 = .ok (.iconst 2, 1) := by decide +kernel
theorem dX2_fitsAt_12 : decode cX2_fitsAt 12 = .ok (.if_icmp .lt 13, 3) := by decide +kernel
theorem dX2_fitsAt_15 : decode cX2_fitsAt 15 = .ok (.iload_n 2, 1) := by decide +kernel
theorem dX2_fitsAt_16 : decode cX2_fitsAt 16 = .ok (.bipush 6, 2) := by decide +kernel
theorem dX2_fitsAt_18 : decode cX2_fitsAt 18 = .ok (.if_icmp .gt 7, 3) := by decide +kernel
theorem dX2_fitsAt_21 : decode cX2_fitsAt 21 = .ok (.iconst 1, 1) := by decide +kernel
theorem dX2_fitsAt_22 : decode cX2_fitsAt 22 = .ok (.goto 4, 3) := by decide +kernel
theorem dX2_fitsAt_25 : decode cX2_fitsAt 25 = .ok (.iconst 0, 1) := by decide +kernel
theorem dX2_fitsAt_26 : decode cX2_fitsAt 26 = .ok (.ireturn, 1) := by decide +kernel
theorem dX2_fitsAt_27 : decode cX2_fitsAt 27 = .ok (.iload_n 1, 1) := by decide +kernel
theorem dX2_fitsAt_28 : decode cX2_fitsAt 28 = .ok (.iconst 4, 1) := by decide +kernel
theorem dX2_fitsAt_29 : decode cX2_fitsAt 29 = .ok (.irem, 1) := by decide +kernel
theorem dX2_fitsAt_30 : decode cX2_fitsAt 30 = .ok (.tableswitch 70 1 3 #[26, 42, 48], 26) := by decide +kernel
theorem dX2_fitsAt_56 : decode cX2_fitsAt 56 = .ok (.aload_n 0, 1) := by decide +kernel
theorem dX2_fitsAt_57 : decode cX2_fitsAt 57 = .ok (.iload_n 1, 1) := by decide +kernel
theorem dX2_fitsAt_58 : decode cX2_fitsAt 58 = .ok (.invokevirtual 20, 3) := by decide +kernel
theorem dX2_fitsAt_61 : decode cX2_fitsAt 61 = .ok (.bipush 44, 2) := by decide +kernel
theorem dX2_fitsAt_63 : decode cX2_fitsAt 63 = .ok (.if_icmp .ne 7, 3) := by decide +kernel
theorem dX2_fitsAt_66 : decode cX2_fitsAt 66 = .ok (.iconst 1, 1) := by decide +kernel
theorem dX2_fitsAt_67 : decode cX2_fitsAt 67 = .ok (.goto 4, 3) := by decide +kernel
theorem dX2_fitsAt_70 : decode cX2_fitsAt 70 = .ok (.iconst 0, 1) := by decide +kernel
theorem dX2_fitsAt_71 : decode cX2_fitsAt 71 = .ok (.ireturn, 1) := by decide +kernel
theorem dX2_fitsAt_72 : decode cX2_fitsAt 72 = .ok (.aload_n 0, 1) := by decide +kernel
theorem dX2_fitsAt_73 : decode cX2_fitsAt 73 = .ok (.iload_n 2, 1) := by decide +kernel
theorem dX2_fitsAt_74 : decode cX2_fitsAt 74 = .ok (.invokevirtual 35, 3) := by decide +kernel
theorem dX2_fitsAt_77 : decode cX2_fitsAt 77 = .ok (.ireturn, 1) := by decide +kernel
theorem dX2_fitsAt_78 : decode cX2_fitsAt 78 = .ok (.aload_n 0, 1) := by decide +kernel
theorem dX2_fitsAt_79 : decode cX2_fitsAt 79 = .ok (.iload_n 2, 1) := by decide +kernel
theorem dX2_fitsAt_80 : decode cX2_fitsAt 80 = .ok (.invokevirtual 35, 3) := by decide +kernel
theorem dX2_fitsAt_83 : decode cX2_fitsAt 83 = .ok (.ifCond .eq 15, 3) := by decide +kernel
theorem dX2_fitsAt_86 : decode cX2_fitsAt 86 = .ok (.aload_n 0, 1) := by decide +kernel
theorem dX2_fitsAt_87 : decode cX2_fitsAt 87 = .ok (.iload_n 1, 1) := by decide +kernel
theorem dX2_fitsAt_88 : decode cX2_fitsAt 88 = .ok (.invokevirtual 38, 3) := by decide +kernel
theorem dX2_fitsAt_91 : decode cX2_fitsAt 91 = .ok (.ifCond .eq 7, 3) := by decide +kernel
theorem dX2_fitsAt_94 : decode cX2_fitsAt 94 = .ok (.iconst 1, 1) := by decide +kernel
theorem dX2_fitsAt_95 : decode cX2_fitsAt 95 = .ok (.goto 4, 3) := by decide +kernel
theorem dX2_fitsAt_98 : decode cX2_fitsAt 98 = .ok (.iconst 0, 1) := by decide +kernel
theorem dX2_fitsAt_99 : decode cX2_fitsAt 99 = .ok (.ireturn, 1) := by decide +kernel
theorem dX2_fitsAt_100 : decode cX2_fitsAt 100 = .ok (.iload_n 2, 1) := by decide +kernel
theorem dX2_fitsAt_101 : decode cX2_fitsAt 101 = .ok (.ifCond .lt 12, 3) := by decide +kernel
theorem dX2_fitsAt_104 : decode cX2_fitsAt 104 = .ok (.iload_n 2, 1) := by decide +kernel
theorem dX2_fitsAt_105 : decode cX2_fitsAt 105 = .ok (.iconst 3, 1) := by decide +kernel
theorem dX2_fitsAt_106 : decode cX2_fitsAt 106 = .ok (.if_icmp .gt 7, 3) := by decide +kernel
theorem dX2_fitsAt_109 : decode cX2_fitsAt 109 = .ok (.iconst 1, 1) := by decide +kernel
theorem dX2_fitsAt_110 : decode cX2_fitsAt 110 = .ok (.goto 4, 3) := by decide +kernel
theorem dX2_fitsAt_113 : decode cX2_fitsAt 113 = .ok (.iconst 0, 1) := by decide +kernel
theorem dX2_fitsAt_114 : decode cX2_fitsAt 114 = .ok (.ireturn, 1) := by decide +kernel
set_option maxRecDepth 20000 in
theorem ggX2_isNode_X2_digitAt : GoodIn wsX2_isNode wsX2_digitAt := goodIn_r _ [5, 6, 7, 8, 4, 9, 10, 11, 12, 13, 14] (by decide +kernel) (by decide +kernel)
set_option maxRecDepth 20000 in
theorem gX2_isNode_X2_digitAt : GoodIn wsX2_isNode (wsV RX2 32 RX2 yX2_digitAt wsX2_digitAt) := goodIn_app (goodIn_of _ (by decide +kernel)) ggX2_isNode_X2_digitAt
theorem dX2_isNode_0 : decode cX2_isNode 0 = .ok (.iload_n 1, 1) := by decide +kernel
theorem dX2_isNode_1 : decode cX2_isNode 1 = .ok (.ifCond .lt 16, 3) := by decide +kernel
theorem dX2_isNode_4 : decode cX2_isNode 4 = .ok (.iload_n 1, 1) := by decide +kernel
theorem dX2_isNode_5 : decode cX2_isNode 5 = .ok (.aload_n 0, 1) := by decide +kernel
theorem dX2_isNode_6 : decode cX2_isNode 6 = .ok (.iconst 0, 1) := by decide +kernel
theorem dX2_isNode_7 : decode cX2_isNode 7 = .ok (.invokevirtual 32, 3) := by decide +kernel
theorem dX2_isNode_10 : decode cX2_isNode 10 = .ok (.if_icmp .ge 7, 3) := by decide +kernel
theorem dX2_isNode_13 : decode cX2_isNode 13 = .ok (.iconst 1, 1) := by decide +kernel
theorem dX2_isNode_14 : decode cX2_isNode 14 = .ok (.goto 4, 3) := by decide +kernel
theorem dX2_isNode_17 : decode cX2_isNode 17 = .ok (.iconst 0, 1) := by decide +kernel
theorem dX2_isNode_18 : decode cX2_isNode 18 = .ok (.ireturn, 1) := by decide +kernel
set_option maxRecDepth 20000 in
theorem ggX2_isNewLink_X2_digitAt : GoodIn wsX2_isNewLink wsX2_digitAt := goodIn_r _ [5, 6, 7, 8, 4, 9, 10, 11, 12, 16, 17] (by decide +kernel) (by decide +kernel)
set_option maxRecDepth 20000 in
theorem gX2_isNewLink_X2_digitAt : GoodIn wsX2_isNewLink (wsV RX2 32 RX2 yX2_digitAt wsX2_digitAt) := goodIn_app (goodIn_of _ (by decide +kernel)) ggX2_isNewLink_X2_digitAt
set_option maxRecDepth 20000 in
theorem ggX2_isNewLink_X2_placeOfLink : GoodIn wsX2_isNewLink wsX2_placeOfLink := goodIn_r _ [15] (by decide +kernel) (by decide +kernel)
set_option maxRecDepth 20000 in
theorem gX2_isNewLink_X2_placeOfLink : GoodIn wsX2_isNewLink (va_wsS RX2 41 yX2_placeOfLink wsX2_placeOfLink) := goodIn_app (goodIn_of _ (by decide +kernel)) ggX2_isNewLink_X2_placeOfLink
theorem dX2_isNewLink_0 : decode cX2_isNewLink 0 = .ok (.aload_n 0, 1) := by decide +kernel
theorem dX2_isNewLink_1 : decode cX2_isNewLink 1 = .ok (.iload_n 1, 1) := by decide +kernel
theorem dX2_isNewLink_2 : decode cX2_isNewLink 2 = .ok (.iconst 1, 1) := by decide +kernel
theorem dX2_isNewLink_3 : decode cX2_isNewLink 3 = .ok (.isub, 1) := by decide +kernel
theorem dX2_isNewLink_4 : decode cX2_isNewLink 4 = .ok (.invokevirtual 32, 3) := by decide +kernel
theorem dX2_isNewLink_7 : decode cX2_isNewLink 7 = .ok (.istore_n 2, 1) := by decide +kernel
theorem dX2_isNewLink_8 : decode cX2_isNewLink 8 = .ok (.aload_n 0, 1) := by decide +kernel
theorem dX2_isNewLink_9 : decode cX2_isNewLink 9 = .ok (.iload_n 1, 1) := by decide +kernel
theorem dX2_isNewLink_10 : decode cX2_isNewLink 10 = .ok (.invokevirtual 32, 3) := by decide +kernel
theorem dX2_isNewLink_13 : decode cX2_isNewLink 13 = .ok (.istore_n 3, 1) := by decide +kernel
theorem dX2_isNewLink_14 : decode cX2_isNewLink 14 = .ok (.iload_n 2, 1) := by decide +kernel
theorem dX2_isNewLink_15 : decode cX2_isNewLink 15 = .ok (.iload_n 3, 1) := by decide +kernel
theorem dX2_isNewLink_16 : decode cX2_isNewLink 16 = .ok (.if_icmp .ne 5, 3) := by decide +kernel
theorem dX2_isNewLink_19 : decode cX2_isNewLink 19 = .ok (.iconst 0, 1) := by decide +kernel
theorem dX2_isNewLink_20 : decode cX2_isNewLink 20 = .ok (.ireturn, 1) := by decide +kernel
theorem dX2_isNewLink_21 : decode cX2_isNewLink 21 = .ok (.iconst 0, 1) := by decide +kernel
theorem dX2_isNewLink_22 : decode cX2_isNewLink 22 = .ok (.invokestatic 41, 3) := by decide +kernel
theorem dX2_isNewLink_25 : decode cX2_isNewLink 25 = .ok (.istore 4, 2) := by decide +kernel
theorem dX2_isNewLink_27 : decode cX2_isNewLink 27 = .ok (.iload 4, 2) := by decide +kernel
theorem dX2_isNewLink_29 : decode cX2_isNewLink 29 = .ok (.iload_n 1, 1) := by decide +kernel
theorem dX2_isNewLink_30 : decode cX2_isNewLink 30 = .ok (.iconst 1, 1) := by decide +kernel
theorem dX2_isNewLink_31 : decode cX2_isNewLink 31 = .ok (.isub, 1) := by decide +kernel
theorem dX2_isNewLink_32 : decode cX2_isNewLink 32 = .ok (.if_icmp .ge 53, 3) := by decide +kernel
theorem dX2_isNewLink_35 : decode cX2_isNewLink 35 = .ok (.aload_n 0, 1) := by decide +kernel
theorem dX2_isNewLink_36 : decode cX2_isNewLink 36 = .ok (.iload 4, 2) := by decide +kernel
theorem dX2_isNewLink_38 : decode cX2_isNewLink 38 = .ok (.invokevirtual 32, 3) := by decide +kernel
theorem dX2_isNewLink_41 : decode cX2_isNewLink 41 = .ok (.istore 5, 2) := by decide +kernel
theorem dX2_isNewLink_43 : decode cX2_isNewLink 43 = .ok (.aload_n 0, 1) := by decide +kernel
theorem dX2_isNewLink_44 : decode cX2_isNewLink 44 = .ok (.iload 4, 2) := by decide +kernel
theorem dX2_isNewLink_46 : decode cX2_isNewLink 46 = .ok (.iconst 1, 1) := by decide +kernel
theorem dX2_isNewLink_47 : decode cX2_isNewLink 47 = .ok (.iadd, 1) := by decide +kernel
theorem dX2_isNewLink_48 : decode cX2_isNewLink 48 = .ok (.invokevirtual 32, 3) := by decide +kernel
theorem dX2_isNewLink_51 : decode cX2_isNewLink 51 = .ok (.istore 6, 2) := by decide +kernel
theorem dX2_isNewLink_53 : decode cX2_isNewLink 53 = .ok (.iload 5, 2) := by decide +kernel
theorem dX2_isNewLink_55 : decode cX2_isNewLink 55 = .ok (.iload_n 2, 1) := by decide +kernel
theorem dX2_isNewLink_56 : decode cX2_isNewLink 56 = .ok (.if_icmp .ne 9, 3) := by decide +kernel
theorem dX2_isNewLink_59 : decode cX2_isNewLink 59 = .ok (.iload 6, 2) := by decide +kernel
theorem dX2_isNewLink_61 : decode cX2_isNewLink 61 = .ok (.iload_n 3, 1) := by decide +kernel
theorem dX2_isNewLink_62 : decode cX2_isNewLink 62 = .ok (.if_icmp .eq 15, 3) := by decide +kernel
theorem dX2_isNewLink_65 : decode cX2_isNewLink 65 = .ok (.iload 5, 2) := by decide +kernel
theorem dX2_isNewLink_67 : decode cX2_isNewLink 67 = .ok (.iload_n 3, 1) := by decide +kernel
theorem dX2_isNewLink_68 : decode cX2_isNewLink 68 = .ok (.if_icmp .ne 11, 3) := by decide +kernel
theorem dX2_isNewLink_71 : decode cX2_isNewLink 71 = .ok (.iload 6, 2) := by decide +kernel
theorem dX2_isNewLink_73 : decode cX2_isNewLink 73 = .ok (.iload_n 2, 1) := by decide +kernel
theorem dX2_isNewLink_74 : decode cX2_isNewLink 74 = .ok (.if_icmp .ne 5, 3) := by decide +kernel
theorem dX2_isNewLink_77 : decode cX2_isNewLink 77 = .ok (.iconst 0, 1) := by decide +kernel
theorem dX2_isNewLink_78 : decode cX2_isNewLink 78 = .ok (.ireturn, 1) := by decide +kernel
theorem dX2_isNewLink_79 : decode cX2_isNewLink 79 = .ok (.iinc 4 4, 3) := by decide +kernel
theorem dX2_isNewLink_82 : decode cX2_isNewLink 82 = .ok (.goto (-55), 3) := by decide +kernel
theorem dX2_isNewLink_85 : decode cX2_isNewLink 85 = .ok (.iconst 1, 1) := by decide +kernel
theorem dX2_isNewLink_86 : decode cX2_isNewLink 86 = .ok (.ireturn, 1) := by decide +kernel
set_option maxRecDepth 20000 in
theorem ggX3_init_X2_init : GoodIn wsX3_init wsX2_init := goodIn_r _ [24, 25, 2, 3, 26, 27, 28, 53, 54] (by decide +kernel) (by decide +kernel)
set_option maxRecDepth 20000 in
theorem gX3_init_X2_init_n9 : GoodIn wsX3_init (wsX2_init) := ggX3_init_X2_init
set_option maxRecDepth 20000 in
theorem ggX3_init_X1_init : GoodIn wsX3_init wsX1_init := goodIn_r _ [30, 31, 2, 3, 26, 32, 33, 34, 35, 36, 65, 66, 67, 68, 69] (by decide +kernel) (by decide +kernel)
set_option maxRecDepth 20000 in
theorem gX3_init_X1_init_n18 : GoodIn wsX3_init (wsX1_init) := ggX3_init_X1_init
set_option maxRecDepth 20000 in
theorem ggX3_init_X0_init : GoodIn wsX3_init wsX0_init := goodIn_r _ [39, 40, 2, 3, 26, 41, 42, 43, 44, 45, 46, 47, 48, 49, 50, 51, 52, 70, 71, 72, 73, 74, 75, 76, 77, 78, 79, 80] (by decide +kernel) (by decide +kernel)
set_option maxRecDepth 20000 in
theorem gX3_init_X0_init : GoodIn wsX3_init (wsX0_init) := ggX3_init_X0_init
theorem dX3_init_0 : decode cX3_init 0 = .ok (.aload_n 0, 1) := by decide +kernel
theorem dX3_init_1 : decode cX3_init 1 = .ok (.invokespecial 1, 3) := by decide +kernel
theorem dX3_init_4 : decode cX3_init 4 = .ok (.aload_n 0, 1) := by decide +kernel
theorem dX3_init_5 : decode cX3_init 5 = .ok (.new 7, 3) := by decide +kernel
theorem dX3_init_8 : decode cX3_init 8 = .ok (.dup, 1) := by decide +kernel
theorem dX3_init_9 : decode cX3_init 9 = .ok (.invokespecial 9, 3) := by decide +kernel
theorem dX3_init_12 : decode cX3_init 12 = .ok (.putfield 10, 3) := by decide +kernel
theorem dX3_init_15 : decode cX3_init 15 = .ok (.aload_n 0, 1) := by decide +kernel
theorem dX3_init_16 : decode cX3_init 16 = .ok (.new 16, 3) := by decide +kernel
theorem dX3_init_19 : decode cX3_init 19 = .ok (.dup, 1) := by decide +kernel
theorem dX3_init_20 : decode cX3_init 20 = .ok (.invokespecial 18, 3) := by decide +kernel
theorem dX3_init_23 : decode cX3_init 23 = .ok (.putfield 19, 3) := by decide +kernel
theorem dX3_init_26 : decode cX3_init 26 = .ok (.aload_n 0, 1) := by decide +kernel
theorem dX3_init_27 : decode cX3_init 27 = .ok (.new 23, 3) := by decide +kernel
theorem dX3_init_30 : decode cX3_init 30 = .ok (.dup, 1) := by decide +kernel
theorem dX3_init_31 : decode cX3_init 31 = .ok (.aload_n 0, 1) := by decide +kernel
theorem dX3_init_32 : decode cX3_init 32 = .ok (.getfield 19, 3) := by decide +kernel
theorem dX3_init_35 : decode cX3_init 35 = .ok (.invokespecial 25, 3) := by decide +kernel
theorem dX3_init_38 : decode cX3_init 38 = .ok (.putfield 28, 3) := by decide +kernel
theorem dX3_init_41 : decode cX3_init 41 = .ok (.aload_n 0, 1) := by decide +kernel
theorem dX3_init_42 : decode cX3_init 42 = .ok (.new 23, 3) := by decide +kernel
theorem dX3_init_45 : decode cX3_init 45 = .ok (.dup, 1) := by decide +kernel
theorem dX3_init_46 : decode cX3_init 46 = .ok (.aload_n 0, 1) := by decide +kernel
theorem dX3_init_47 : decode cX3_init 47 = .ok (.getfield 19, 3) := by decide +kernel
theorem dX3_init_50 : decode cX3_init 50 = .ok (.invokespecial 25, 3) := by decide +kernel
theorem dX3_init_53 : decode cX3_init 53 = .ok (.putfield 32, 3) := by decide +kernel
theorem dX3_init_56 : decode cX3_init 56 = .ok (.aload_n 0, 1) := by decide +kernel
theorem dX3_init_57 : decode cX3_init 57 = .ok (.new 23, 3) := by decide +kernel
theorem dX3_init_60 : decode cX3_init 60 = .ok (.dup, 1) := by decide +kernel
theorem dX3_init_61 : decode cX3_init 61 = .ok (.aload_n 0, 1) := by decide +kernel
theorem dX3_init_62 : decode cX3_init 62 = .ok (.getfield 19, 3) := by decide +kernel
theorem dX3_init_65 : decode cX3_init 65 = .ok (.invokespecial 25, 3) := by decide +kernel
theorem dX3_init_68 : decode cX3_init 68 = .ok (.putfield 35, 3) := by decide +kernel
theorem dX3_init_71 : decode cX3_init 71 = .ok (.aload_n 0, 1) := by decide +kernel
theorem dX3_init_72 : decode cX3_init 72 = .ok (.iconst 0, 1) := by decide +kernel
theorem dX3_init_73 : decode cX3_init 73 = .ok (.putfield 38, 3) := by decide +kernel
theorem dX3_init_76 : decode cX3_init 76 = .ok (.aload_n 0, 1) := by decide +kernel
theorem dX3_init_77 : decode cX3_init 77 = .ok (.bipush 20, 2) := by decide +kernel
theorem dX3_init_79 : decode cX3_init 79 = .ok (.putfield 42, 3) := by decide +kernel
theorem dX3_init_82 : decode cX3_init 82 = .ok (.aload_n 0, 1) := by decide +kernel
theorem dX3_init_83 : decode cX3_init 83 = .ok (.bipush 10, 2) := by decide +kernel
theorem dX3_init_85 : decode cX3_init 85 = .ok (.putfield 46, 3) := by decide +kernel
theorem dX3_init_88 : decode cX3_init 88 = .ok (.aload_n 0, 1) := by decide +kernel
theorem dX3_init_89 : decode cX3_init 89 = .ok (.iconst 0, 1) := by decide +kernel
theorem dX3_init_90 : decode cX3_init 90 = .ok (.putfield 49, 3) := by decide +kernel
theorem dX3_init_93 : decode cX3_init 93 = .ok (.aload_n 0, 1) := by decide +kernel
theorem dX3_init_94 : decode cX3_init 94 = .ok (.iconst 0, 1) := by decide +kernel
theorem dX3_init_95 : decode cX3_init 95 = .ok (.putfield 52, 3) := by decide +kernel
theorem dX3_init_98 : decode cX3_init 98 = .ok (.return_, 1) := by decide +kernel
set_option maxRecDepth 20000 in
theorem ggX3_letter_X2_isFull : GoodIn wsX3_letter wsX2_isFull := goodIn_r _ [8, 9, 25, 26] (by decide +kernel) (by decide +kernel)
set_option maxRecDepth 20000 in
theorem gX3_letter_X2_isFull : GoodIn wsX3_letter (wsV RX3 56 RX2 yX2_isFull wsX2_isFull) := goodIn_app (goodIn_of _ (by decide +kernel)) ggX3_letter_X2_isFull
set_option maxRecDepth 20000 in
theorem ggX3_letter_X2_append : GoodIn wsX3_letter wsX2_append := goodIn_r _ [13, 9, 14, 25, 26] (by decide +kernel) (by decide +kernel)
set_option maxRecDepth 20000 in
theorem gX3_letter_X2_append : GoodIn wsX3_letter (wsV RX3 61 RX2 yX2_append wsX2_append) := goodIn_app (goodIn_of _ (by decide +kernel)) ggX3_letter_X2_append
theorem dX3_letter_0 : decode cX3_letter 0 = .ok (.iload_n 1, 1) := by decide +kernel
theorem dX3_letter_1 : decode cX3_letter 1 = .ok (.bipush 32, 2) := by decide +kernel
theorem dX3_letter_3 : decode cX3_letter 3 = .ok (.if_icmp .lt 9, 3) := by decide +kernel
theorem dX3_letter_6 : decode cX3_letter 6 = .ok (.iload_n 1, 1) := by decide +kernel
theorem dX3_letter_7 : decode cX3_letter 7 = .ok (.bipush 126, 2) := by decide +kernel
theorem dX3_letter_9 : decode cX3_letter 9 = .ok (.if_icmp .le 6, 3) := by decide +kernel
theorem dX3_letter_12 : decode cX3_letter 12 = .ok (.ldc 55, 2) := by decide +kernel
theorem dX3_letter_14 : decode cX3_letter 14 = .ok (.ireturn, 1) := by decide +kernel
theorem dX3_letter_15 : decode cX3_letter 15 = .ok (.aload_n 0, 1) := by decide +kernel
theorem dX3_letter_16 : decode cX3_letter 16 = .ok (.getfield 10, 3) := by decide +kernel
theorem dX3_letter_19 : decode cX3_letter 19 = .ok (.invokevirtual 56, 3) := by decide +kernel
theorem dX3_letter_22 : decode cX3_letter 22 = .ok (.ifCond .eq 6, 3) := by decide +kernel
theorem dX3_letter_25 : decode cX3_letter 25 = .ok (.ldc 60, 2) := by decide +kernel
theorem dX3_letter_27 : decode cX3_letter 27 = .ok (.ireturn, 1) := by decide +kernel
theorem dX3_letter_28 : decode cX3_letter 28 = .ok (.aload_n 0, 1) := by decide +kernel
theorem dX3_letter_29 : decode cX3_letter 29 = .ok (.getfield 10, 3) := by decide +kernel
theorem dX3_letter_32 : decode cX3_letter 32 = .ok (.iload_n 1, 1) := by decide +kernel
theorem dX3_letter_33 : decode cX3_letter 33 = .ok (.invokevirtual 61, 3) := by decide +kernel
theorem dX3_letter_36 : decode cX3_letter 36 = .ok (.ireturn, 1) := by decide +kernel
set_option maxRecDepth 20000 in
theorem ggX3_blank_X2_empty : GoodIn wsX3_blank wsX2_empty := goodIn_r _ [6, 7, 18, 19] (by decide +kernel) (by decide +kernel)
set_option maxRecDepth 20000 in
theorem gX3_blank_X2_empty : GoodIn wsX3_blank (wsV RX3 65 RX2 yX2_empty wsX2_empty) := goodIn_app (goodIn_of _ (by decide +kernel)) ggX3_blank_X2_empty
theorem dX3_blank_0 : decode cX3_blank 0 = .ok (.aload_n 0, 1) := by decide +kernel
theorem dX3_blank_1 : decode cX3_blank 1 = .ok (.getfield 10, 3) := by decide +kernel
theorem dX3_blank_4 : decode cX3_blank 4 = .ok (.invokevirtual 65, 3) := by decide +kernel
theorem dX3_blank_7 : decode cX3_blank 7 = .ok (.ireturn, 1) := by decide +kernel
set_option maxRecDepth 20000 in
theorem ggX3_fault_X2_firstFault : GoodIn wsX3_fault wsX2_firstFault := goodIn_r _ [6, 7, 8, 9, 10, 5, 11, 12, 13, 14, 15, 16, 17, 18, 19, 20, 21, 22, 23, 24, 25, 26, 27, 28, 29, 30, 31, 32, 43, 44] (by decide +kernel) (by decide +kernel)
set_option maxRecDepth 20000 in
theorem gX3_fault_X2_firstFault : GoodIn wsX3_fault (wsV RX3 69 RX2 yX2_firstFault wsX2_firstFault) := goodIn_app (goodIn_of _ (by decide +kernel)) ggX3_fault_X2_firstFault
theorem dX3_fault_0 : decode cX3_fault 0 = .ok (.aload_n 0, 1) := by decide +kernel
theorem dX3_fault_1 : decode cX3_fault 1 = .ok (.getfield 10, 3) := by decide +kernel
theorem dX3_fault_4 : decode cX3_fault 4 = .ok (.invokevirtual 69, 3) := by decide +kernel
theorem dX3_fault_7 : decode cX3_fault 7 = .ok (.ireturn, 1) := by decide +kernel
set_option maxRecDepth 20000 in
theorem ggX3_net_X2_isNet : GoodIn wsX3_net wsX2_isNet := goodIn_r _ [11, 12, 13, 14, 15, 10, 16, 17, 18, 19, 20, 21, 22, 23, 24, 25, 26, 27, 28, 29, 30, 31, 32, 33, 34, 35, 36, 37, 38, 39, 40, 41, 128, 129] (by decide +kernel) (by decide +kernel)
set_option maxRecDepth 20000 in
theorem gX3_net_X2_isNet : GoodIn wsX3_net (wsV RX3 72 RX2 yX2_isNet wsX2_isNet) := goodIn_app (goodIn_of _ (by decide +kernel)) ggX3_net_X2_isNet
set_option maxRecDepth 20000 in
theorem ggX3_net_X1_readFrom : GoodIn wsX3_net wsX1_readFrom := goodIn_r _ [46, 47, 48, 49, 50, 51, 22, 23, 10, 24, 25, 26, 27, 28, 12, 29, 30, 52, 53, 54, 55, 56, 57, 58, 59, 40, 41, 60, 61, 62, 45, 63, 64, 65, 66, 67, 68, 69, 70, 71, 72, 73, 74, 75, 76, 77, 78, 79, 80, 123, 124, 125, 126, 127, 128, 129] (by decide +kernel) (by decide +kernel)
set_option maxRecDepth 20000 in
theorem gX3_net_X1_readFrom : GoodIn wsX3_net (wsV RX3 76 RX1 yX1_readFrom wsX1_readFrom) := goodIn_app (goodIn_of _ (by decide +kernel)) ggX3_net_X1_readFrom
set_option maxRecDepth 20000 in
theorem ggX3_net_X0_startFrom : GoodIn wsX3_net wsX0_startFrom := goodIn_r _ [85, 86, 87, 88, 89, 90, 91, 92, 93, 94, 95, 96, 97, 98, 40, 10, 41, 99, 22, 23, 24, 25, 26, 27, 28, 12, 29, 30, 100, 101, 102, 84, 103, 104, 105, 106, 107, 45, 108, 50, 64, 65, 66, 67, 47, 56, 57, 58, 130, 131, 132, 133, 134, 135, 136, 137, 138, 139, 140, 123, 124, 125, 126, 127, 128, 129] (by decide +kernel) (by decide +kernel)
set_option maxRecDepth 20000 in
theorem gX3_net_X0_startFrom : GoodIn wsX3_net (wsV RX3 80 RX0 yX0_startFrom wsX0_startFrom) := goodIn_app (goodIn_of _ (by decide +kernel)) ggX3_net_X0_startFrom
set_option maxRecDepth 20000 in
theorem ggX3_net_X2_empty : GoodIn wsX3_net wsX2_empty := goodIn_r _ [112, 12, 128, 129] (by decide +kernel) (by decide +kernel)
set_option maxRecDepth 20000 in
theorem gX3_net_X2_empty : GoodIn wsX3_net (wsV RX3 65 RX2 yX2_empty wsX2_empty) := goodIn_app (goodIn_of _ (by decide +kernel)) ggX3_net_X2_empty
theorem dX3_net_0 : decode cX3_net 0 = .ok (.aload_n 0, 1) := by decide +kernel
theorem dX3_net_1 : decode cX3_net 1 = .ok (.getfield 10, 3) := by decide +kernel
theorem dX3_net_4 : decode cX3_net 4 = .ok (.invokevirtual 72, 3) := by decide +kernel
theorem dX3_net_7 : decode cX3_net 7 = .ok (.ifCond .ne 6, 3) := by decide +kernel
theorem dX3_net_10 : decode cX3_net 10 = .ok (.ldc 75, 2) := by decide +kernel
theorem dX3_net_12 : decode cX3_net 12 = .ok (.ireturn, 1) := by decide +kernel
theorem dX3_net_13 : decode cX3_net 13 = .ok (.aload_n 0, 1) := by decide +kernel
theorem dX3_net_14 : decode cX3_net 14 = .ok (.getfield 19, 3) := by decide +kernel
theorem dX3_net_17 : decode cX3_net 17 = .ok (.aload_n 0, 1) := by decide +kernel
theorem dX3_net_18 : decode cX3_net 18 = .ok (.getfield 10, 3) := by decide +kernel
theorem dX3_net_21 : decode cX3_net 21 = .ok (.invokevirtual 76, 3) := by decide +kernel
theorem dX3_net_24 : decode cX3_net 24 = .ok (.aload_n 0, 1) := by decide +kernel
theorem dX3_net_25 : decode cX3_net 25 = .ok (.getfield 28, 3) := by decide +kernel
theorem dX3_net_28 : decode cX3_net 28 = .ok (.aload_n 0, 1) := by decide +kernel
theorem dX3_net_29 : decode cX3_net 29 = .ok (.getfield 10, 3) := by decide +kernel
theorem dX3_net_32 : decode cX3_net 32 = .ok (.invokevirtual 80, 3) := by decide +kernel
theorem dX3_net_35 : decode cX3_net 35 = .ok (.aload_n 0, 1) := by decide +kernel
theorem dX3_net_36 : decode cX3_net 36 = .ok (.iconst 0, 1) := by decide +kernel
theorem dX3_net_37 : decode cX3_net 37 = .ok (.putfield 38, 3) := by decide +kernel
theorem dX3_net_40 : decode cX3_net 40 = .ok (.aload_n 0, 1) := by decide +kernel
theorem dX3_net_41 : decode cX3_net 41 = .ok (.dup, 1) := by decide +kernel
theorem dX3_net_42 : decode cX3_net 42 = .ok (.getfield 49, 3) := by decide +kernel
theorem dX3_net_45 : decode cX3_net 45 = .ok (.iconst 1, 1) := by decide +kernel
theorem dX3_net_46 : decode cX3_net 46 = .ok (.iadd, 1) := by decide +kernel
theorem dX3_net_47 : decode cX3_net 47 = .ok (.putfield 49, 3) := by decide +kernel
theorem dX3_net_50 : decode cX3_net 50 = .ok (.aload_n 0, 1) := by decide +kernel
theorem dX3_net_51 : decode cX3_net 51 = .ok (.getfield 10, 3) := by decide +kernel
theorem dX3_net_54 : decode cX3_net 54 = .ok (.invokevirtual 65, 3) := by decide +kernel
theorem dX3_net_57 : decode cX3_net 57 = .ok (.pop, 1) := by decide +kernel
theorem dX3_net_58 : decode cX3_net 58 = .ok (.aload_n 0, 1) := by decide +kernel
theorem dX3_net_59 : decode cX3_net 59 = .ok (.getfield 19, 3) := by decide +kernel
theorem dX3_net_62 : decode cX3_net 62 = .ok (.getfield 83, 3) := by decide +kernel
theorem dX3_net_65 : decode cX3_net 65 = .ok (.ireturn, 1) := by decide +kernel
theorem dX3_set_0 : decode cX3_set 0 = .ok (.iload_n 1, 1) := by decide +kernel
theorem dX3_set_1 : decode cX3_set 1 = .ok (.ifCond .lt 29, 3) := by decide +kernel
theorem dX3_set_4 : decode cX3_set 4 = .ok (.iload_n 1, 1) := by decide +kernel
theorem dX3_set_5 : decode cX3_set 5 = .ok (.iconst 1, 1) := by decide +kernel
theorem dX3_set_6 : decode cX3_set 6 = .ok (.if_icmp .gt 24, 3) := by decide +kernel
theorem dX3_set_9 : decode cX3_set 9 = .ok (.iload_n 2, 1) := by decide +kernel
theorem dX3_set_10 : decode cX3_set 10 = .ok (.iconst 1, 1) := by decide +kernel
theorem dX3_set_11 : decode cX3_set 11 = .ok (.if_icmp .lt 19, 3) := by decide +kernel
theorem dX3_set_14 : decode cX3_set 14 = .ok (.iload_n 2, 1) := by decide +kernel
theorem dX3_set_15 : decode cX3_set 15 = .ok (.iload_n 1, 1) := by decide +kernel
theorem dX3_set_16 : decode cX3_set 16 = .ok (.ifCond .ne 9, 3) := by decide +kernel
theorem dX3_set_19 : decode cX3_set 19 = .ok (.sipush 500, 3) := by decide +kernel
theorem dX3_set_22 : decode cX3_set 22 = .ok (.goto 5, 3) := by decide +kernel
theorem dX3_set_25 : decode cX3_set 25 = .ok (.bipush 60, 2) := by decide +kernel
theorem dX3_set_27 : decode cX3_set 27 = .ok (.if_icmp .le 6, 3) := by decide +kernel
theorem dX3_set_30 : decode cX3_set 30 = .ok (.ldc 55, 2) := by decide +kernel
theorem dX3_set_32 : decode cX3_set 32 = .ok (.ireturn, 1) := by decide +kernel
theorem dX3_set_33 : decode cX3_set 33 = .ok (.iload_n 1, 1) := by decide +kernel
theorem dX3_set_34 : decode cX3_set 34 = .ok (.ifCond .ne 16, 3) := by decide +kernel
theorem dX3_set_37 : decode cX3_set 37 = .ok (.aload_n 0, 1) := by decide +kernel
theorem dX3_set_38 : decode cX3_set 38 = .ok (.getfield 42, 3) := by decide +kernel
theorem dX3_set_41 : decode cX3_set 41 = .ok (.istore_n 3, 1) := by decide +kernel
theorem dX3_set_42 : decode cX3_set 42 = .ok (.aload_n 0, 1) := by decide +kernel
theorem dX3_set_43 : decode cX3_set 43 = .ok (.iload_n 2, 1) := by decide +kernel
theorem dX3_set_44 : decode cX3_set 44 = .ok (.putfield 42, 3) := by decide +kernel
theorem dX3_set_47 : decode cX3_set 47 = .ok (.goto 13, 3) := by decide +kernel
theorem dX3_set_50 : decode cX3_set 50 = .ok (.aload_n 0, 1) := by decide +kernel
theorem dX3_set_51 : decode cX3_set 51 = .ok (.getfield 46, 3) := by decide +kernel
theorem dX3_set_54 : decode cX3_set 54 = .ok (.istore_n 3, 1) := by decide +kernel
theorem dX3_set_55 : decode cX3_set 55 = .ok (.aload_n 0, 1) := by decide +kernel
theorem dX3_set_56 : decode cX3_set 56 = .ok (.iload_n 2, 1) := by decide +kernel
theorem dX3_set_57 : decode cX3_set 57 = .ok (.putfield 46, 3) := by decide +kernel
theorem dX3_set_60 : decode cX3_set 60 = .ok (.iload_n 3, 1) := by decide +kernel
theorem dX3_set_61 : decode cX3_set 61 = .ok (.ireturn, 1) := by decide +kernel
set_option maxRecDepth 20000 in
theorem ggX3_rate_X1_hasNode : GoodIn wsX3_rate wsX1_hasNode := goodIn_r _ [9, 10, 32, 33, 34, 35, 36] (by decide +kernel) (by decide +kernel)
set_option maxRecDepth 20000 in
theorem gX3_rate_X1_hasNode : GoodIn wsX3_rate (wsV RX3 86 RX1 yX1_hasNode wsX1_hasNode) := goodIn_app (goodIn_of _ (by decide +kernel)) ggX3_rate_X1_hasNode
theorem dX3_rate_0 : decode cX3_rate 0 = .ok (.aload_n 0, 1) := by decide +kernel
theorem dX3_rate_1 : decode cX3_rate 1 = .ok (.getfield 19, 3) := by decide +kernel
theorem dX3_rate_4 : decode cX3_rate 4 = .ok (.iload_n 1, 1) := by decide +kernel
theorem dX3_rate_5 : decode cX3_rate 5 = .ok (.invokevirtual 86, 3) := by decide +kernel
theorem dX3_rate_8 : decode cX3_rate 8 = .ok (.ifCond .ne 6, 3) := by decide +kernel
theorem dX3_rate_11 : decode cX3_rate 11 = .ok (.ldc 90, 2) := by decide +kernel
theorem dX3_rate_13 : decode cX3_rate 13 = .ok (.ireturn, 1) := by decide +kernel
theorem dX3_rate_14 : decode cX3_rate 14 = .ok (.iload_n 2, 1) := by decide +kernel
theorem dX3_rate_15 : decode cX3_rate 15 = .ok (.bipush 90, 2) := by decide +kernel
theorem dX3_rate_17 : decode cX3_rate 17 = .ok (.if_icmp .lt 9, 3) := by decide +kernel
theorem dX3_rate_20 : decode cX3_rate 20 = .ok (.iload_n 2, 1) := by decide +kernel
theorem dX3_rate_21 : decode cX3_rate 21 = .ok (.bipush 110, 2) := by decide +kernel
theorem dX3_rate_23 : decode cX3_rate 23 = .ok (.if_icmp .le 6, 3) := by decide +kernel
theorem dX3_rate_26 : decode cX3_rate 26 = .ok (.ldc 55, 2) := by decide +kernel
theorem dX3_rate_28 : decode cX3_rate 28 = .ok (.ireturn, 1) := by decide +kernel
theorem dX3_rate_29 : decode cX3_rate 29 = .ok (.aload_n 0, 1) := by decide +kernel
theorem dX3_rate_30 : decode cX3_rate 30 = .ok (.getfield 28, 3) := by decide +kernel
theorem dX3_rate_33 : decode cX3_rate 33 = .ok (.getfield 91, 3) := by decide +kernel
theorem dX3_rate_36 : decode cX3_rate 36 = .ok (.iload_n 1, 1) := by decide +kernel
theorem dX3_rate_37 : decode cX3_rate 37 = .ok (.iaload, 1) := by decide +kernel
theorem dX3_rate_38 : decode cX3_rate 38 = .ok (.istore_n 3, 1) := by decide +kernel
theorem dX3_rate_39 : decode cX3_rate 39 = .ok (.aload_n 0, 1) := by decide +kernel
theorem dX3_rate_40 : decode cX3_rate 40 = .ok (.getfield 28, 3) := by decide +kernel
theorem dX3_rate_43 : decode cX3_rate 43 = .ok (.getfield 91, 3) := by decide +kernel
theorem dX3_rate_46 : decode cX3_rate 46 = .ok (.iload_n 1, 1) := by decide +kernel
theorem dX3_rate_47 : decode cX3_rate 47 = .ok (.iload_n 2, 1) := by decide +kernel
theorem dX3_rate_48 : decode cX3_rate 48 = .ok (.iastore, 1) := by decide +kernel
theorem dX3_rate_49 : decode cX3_rate 49 = .ok (.iload_n 3, 1) := by decide +kernel
theorem dX3_rate_50 : decode cX3_rate 50 = .ok (.ireturn, 1) := by decide +kernel
set_option maxRecDepth 20000 in
theorem ggX3_put_X1_hasNode : GoodIn wsX3_put wsX1_hasNode := goodIn_r _ [10, 11, 35, 36, 37, 38, 39] (by decide +kernel) (by decide +kernel)
set_option maxRecDepth 20000 in
theorem gX3_put_X1_hasNode : GoodIn wsX3_put (wsV RX3 86 RX1 yX1_hasNode wsX1_hasNode) := goodIn_app (goodIn_of _ (by decide +kernel)) ggX3_put_X1_hasNode
set_option maxRecDepth 20000 in
theorem ggX3_put_X0_clockOf : GoodIn wsX3_put wsX0_clockOf := goodIn_r _ [16, 17, 40, 41, 42, 43, 44, 45, 46, 47, 48, 49, 50] (by decide +kernel) (by decide +kernel)
set_option maxRecDepth 20000 in
theorem gX3_put_X0_clockOf : GoodIn wsX3_put (wsV RX3 96 RX0 yX0_clockOf wsX0_clockOf) := goodIn_app (goodIn_of _ (by decide +kernel)) ggX3_put_X0_clockOf
set_option maxRecDepth 20000 in
theorem ggX3_put_X0_tellClock : GoodIn wsX3_put wsX0_tellClock := goodIn_r _ [21, 17, 22, 23, 24, 40, 41, 42, 43, 44, 45, 46, 47, 48, 49, 50] (by decide +kernel) (by decide +kernel)
set_option maxRecDepth 20000 in
theorem gX3_put_X0_tellClock : GoodIn wsX3_put (wsV RX3 99 RX0 yX0_tellClock wsX0_tellClock) := goodIn_app (goodIn_of _ (by decide +kernel)) ggX3_put_X0_tellClock
theorem dX3_put_0 : decode cX3_put 0 = .ok (.aload_n 0, 1) := by decide +kernel
theorem dX3_put_1 : decode cX3_put 1 = .ok (.getfield 19, 3) := by decide +kernel
theorem dX3_put_4 : decode cX3_put 4 = .ok (.iload_n 1, 1) := by decide +kernel
theorem dX3_put_5 : decode cX3_put 5 = .ok (.invokevirtual 86, 3) := by decide +kernel
theorem dX3_put_8 : decode cX3_put 8 = .ok (.ifCond .ne 6, 3) := by decide +kernel
theorem dX3_put_11 : decode cX3_put 11 = .ok (.ldc 90, 2) := by decide +kernel
theorem dX3_put_13 : decode cX3_put 13 = .ok (.ireturn, 1) := by decide +kernel
theorem dX3_put_14 : decode cX3_put 14 = .ok (.iload_n 2, 1) := by decide +kernel
theorem dX3_put_15 : decode cX3_put 15 = .ok (.ifCond .lt 9, 3) := by decide +kernel
theorem dX3_put_18 : decode cX3_put 18 = .ok (.iload_n 2, 1) := by decide +kernel
theorem dX3_put_19 : decode cX3_put 19 = .ok (.ldc 95, 2) := by decide +kernel
theorem dX3_put_21 : decode cX3_put 21 = .ok (.if_icmp .le 6, 3) := by decide +kernel
theorem dX3_put_24 : decode cX3_put 24 = .ok (.ldc 55, 2) := by decide +kernel
theorem dX3_put_26 : decode cX3_put 26 = .ok (.ireturn, 1) := by decide +kernel
theorem dX3_put_27 : decode cX3_put 27 = .ok (.aload_n 0, 1) := by decide +kernel
theorem dX3_put_28 : decode cX3_put 28 = .ok (.getfield 28, 3) := by decide +kernel
theorem dX3_put_31 : decode cX3_put 31 = .ok (.iload_n 1, 1) := by decide +kernel
theorem dX3_put_32 : decode cX3_put 32 = .ok (.invokevirtual 96, 3) := by decide +kernel
theorem dX3_put_35 : decode cX3_put 35 = .ok (.istore_n 3, 1) := by decide +kernel
theorem dX3_put_36 : decode cX3_put 36 = .ok (.aload_n 0, 1) := by decide +kernel
theorem dX3_put_37 : decode cX3_put 37 = .ok (.getfield 28, 3) := by decide +kernel
theorem dX3_put_40 : decode cX3_put 40 = .ok (.iload_n 1, 1) := by decide +kernel
theorem dX3_put_41 : decode cX3_put 41 = .ok (.iload_n 2, 1) := by decide +kernel
theorem dX3_put_42 : decode cX3_put 42 = .ok (.invokevirtual 99, 3) := by decide +kernel
theorem dX3_put_45 : decode cX3_put 45 = .ok (.iload_n 3, 1) := by decide +kernel
theorem dX3_put_46 : decode cX3_put 46 = .ok (.ireturn, 1) := by decide +kernel
set_option maxRecDepth 20000 in
theorem ggX3_wrong_X1_hasLink : GoodIn wsX3_wrong wsX1_hasLink := goodIn_r _ [9, 10, 11, 12, 13, 8, 14, 15, 16, 17, 18, 41, 42, 43, 44, 45] (by decide +kernel) (by decide +kernel)
set_option maxRecDepth 20000 in
theorem gX3_wrong_X1_hasLink : GoodIn wsX3_wrong (wsV RX3 103 RX1 yX1_hasLink wsX1_hasLink) := goodIn_app (goodIn_of _ (by decide +kernel)) ggX3_wrong_X1_hasLink
set_option maxRecDepth 20000 in
theorem ggX3_wrong_X3_cell : GoodIn wsX3_wrong wsX3_cell := goodIn_r _ [18] (by decide +kernel) (by decide +kernel)
set_option maxRecDepth 20000 in
theorem gX3_wrong_X3_cell : GoodIn wsX3_wrong (va_wsS RX3 110 yX3_cell wsX3_cell) := goodIn_app (goodIn_of _ (by decide +kernel)) ggX3_wrong_X3_cell
theorem dX3_wrong_0 : decode cX3_wrong 0 = .ok (.aload_n 0, 1) := by decide +kernel
theorem dX3_wrong_1 : decode cX3_wrong 1 = .ok (.getfield 19, 3) := by decide +kernel
theorem dX3_wrong_4 : decode cX3_wrong 4 = .ok (.iload_n 1, 1) := by decide +kernel
theorem dX3_wrong_5 : decode cX3_wrong 5 = .ok (.iload_n 2, 1) := by decide +kernel
theorem dX3_wrong_6 : decode cX3_wrong 6 = .ok (.invokevirtual 103, 3) := by decide +kernel
theorem dX3_wrong_9 : decode cX3_wrong 9 = .ok (.ifCond .ne 6, 3) := by decide +kernel
theorem dX3_wrong_12 : decode cX3_wrong 12 = .ok (.ldc 90, 2) := by decide +kernel
theorem dX3_wrong_14 : decode cX3_wrong 14 = .ok (.ireturn, 1) := by decide +kernel
theorem dX3_wrong_15 : decode cX3_wrong 15 = .ok (.iload_n 3, 1) := by decide +kernel
theorem dX3_wrong_16 : decode cX3_wrong 16 = .ok (.bipush (-9), 2) := by decide +kernel
theorem dX3_wrong_18 : decode cX3_wrong 18 = .ok (.if_icmp .lt 9, 3) := by decide +kernel
theorem dX3_wrong_21 : decode cX3_wrong 21 = .ok (.iload_n 3, 1) := by decide +kernel
theorem dX3_wrong_22 : decode cX3_wrong 22 = .ok (.bipush 9, 2) := by decide +kernel
theorem dX3_wrong_24 : decode cX3_wrong 24 = .ok (.if_icmp .le 6, 3) := by decide +kernel
theorem dX3_wrong_27 : decode cX3_wrong 27 = .ok (.ldc 55, 2) := by decide +kernel
theorem dX3_wrong_29 : decode cX3_wrong 29 = .ok (.ireturn, 1) := by decide +kernel
theorem dX3_wrong_30 : decode cX3_wrong 30 = .ok (.aload_n 0, 1) := by decide +kernel
theorem dX3_wrong_31 : decode cX3_wrong 31 = .ok (.getfield 28, 3) := by decide +kernel
theorem dX3_wrong_34 : decode cX3_wrong 34 = .ok (.getfield 107, 3) := by decide +kernel
theorem dX3_wrong_37 : decode cX3_wrong 37 = .ok (.iload_n 1, 1) := by decide +kernel
theorem dX3_wrong_38 : decode cX3_wrong 38 = .ok (.iload_n 2, 1) := by decide +kernel
theorem dX3_wrong_39 : decode cX3_wrong 39 = .ok (.invokestatic 110, 3) := by decide +kernel
theorem dX3_wrong_42 : decode cX3_wrong 42 = .ok (.iaload, 1) := by decide +kernel
theorem dX3_wrong_43 : decode cX3_wrong 43 = .ok (.istore 4, 2) := by decide +kernel
theorem dX3_wrong_45 : decode cX3_wrong 45 = .ok (.aload_n 0, 1) := by decide +kernel
theorem dX3_wrong_46 : decode cX3_wrong 46 = .ok (.getfield 28, 3) := by decide +kernel
theorem dX3_wrong_49 : decode cX3_wrong 49 = .ok (.getfield 107, 3) := by decide +kernel
theorem dX3_wrong_52 : decode cX3_wrong 52 = .ok (.iload_n 1, 1) := by decide +kernel
theorem dX3_wrong_53 : decode cX3_wrong 53 = .ok (.iload_n 2, 1) := by decide +kernel
theorem dX3_wrong_54 : decode cX3_wrong 54 = .ok (.invokestatic 110, 3) := by decide +kernel
theorem dX3_wrong_57 : decode cX3_wrong 57 = .ok (.iload_n 3, 1) := by decide +kernel
theorem dX3_wrong_58 : decode cX3_wrong 58 = .ok (.iastore, 1) := by decide +kernel
theorem dX3_wrong_59 : decode cX3_wrong 59 = .ok (.iload 4, 2) := by decide +kernel
theorem dX3_wrong_61 : decode cX3_wrong 61 = .ok (.ireturn, 1) := by decide +kernel
set_option maxRecDepth 20000 in
theorem ggX3_delay_X1_hasLink : GoodIn wsX3_delay wsX1_hasLink := goodIn_r _ [9, 10, 11, 12, 13, 8, 14, 15, 16, 17, 18, 49, 50, 51, 52, 53] (by decide +kernel) (by decide +kernel)
set_option maxRecDepth 20000 in
theorem gX3_delay_X1_hasLink : GoodIn wsX3_delay (wsV RX3 103 RX1 yX1_hasLink wsX1_hasLink) := goodIn_app (goodIn_of _ (by decide +kernel)) ggX3_delay_X1_hasLink
set_option maxRecDepth 20000 in
theorem ggX3_delay_X3_cell : GoodIn wsX3_delay wsX3_cell := goodIn_r _ [18] (by decide +kernel) (by decide +kernel)
set_option maxRecDepth 20000 in
theorem gX3_delay_X3_cell : GoodIn wsX3_delay (va_wsS RX3 110 yX3_cell wsX3_cell) := goodIn_app (goodIn_of _ (by decide +kernel)) ggX3_delay_X3_cell
set_option maxRecDepth 20000 in
theorem ggX3_delay_X0_tellDelay : GoodIn wsX3_delay wsX0_tellDelay := goodIn_r _ [24, 25, 26, 27, 6, 7, 8, 9, 10, 11, 12, 13, 14, 15, 16, 17, 18, 38, 39, 40, 41, 42, 43, 44, 45, 46, 47, 48, 49, 50, 51, 52, 53] (by decide +kernel) (by decide +kernel)
set_option maxRecDepth 20000 in
theorem gX3_delay_X0_tellDelay : GoodIn wsX3_delay (wsV RX3 117 RX0 yX0_tellDelay wsX0_tellDelay) := goodIn_app (goodIn_of _ (by decide +kernel)) ggX3_delay_X0_tellDelay
theorem dX3_delay_0 : decode cX3_delay 0 = .ok (.aload_n 0, 1) := by decide +kernel
theorem dX3_delay_1 : decode cX3_delay 1 = .ok (.getfield 19, 3) := by decide +kernel
theorem dX3_delay_4 : decode cX3_delay 4 = .ok (.iload_n 1, 1) := by decide +kernel
theorem dX3_delay_5 : decode cX3_delay 5 = .ok (.iload_n 2, 1) := by decide +kernel
theorem dX3_delay_6 : decode cX3_delay 6 = .ok (.invokevirtual 103, 3) := by decide +kernel
theorem dX3_delay_9 : decode cX3_delay 9 = .ok (.ifCond .ne 6, 3) := by decide +kernel
theorem dX3_delay_12 : decode cX3_delay 12 = .ok (.ldc 90, 2) := by decide +kernel
theorem dX3_delay_14 : decode cX3_delay 14 = .ok (.ireturn, 1) := by decide +kernel
theorem dX3_delay_15 : decode cX3_delay 15 = .ok (.iload_n 3, 1) := by decide +kernel
theorem dX3_delay_16 : decode cX3_delay 16 = .ok (.ifCond .lt 8, 3) := by decide +kernel
theorem dX3_delay_19 : decode cX3_delay 19 = .ok (.iload_n 3, 1) := by decide +kernel
theorem dX3_delay_20 : decode cX3_delay 20 = .ok (.iconst 3, 1) := by decide +kernel
theorem dX3_delay_21 : decode cX3_delay 21 = .ok (.if_icmp .le 6, 3) := by decide +kernel
theorem dX3_delay_24 : decode cX3_delay 24 = .ok (.ldc 55, 2) := by decide +kernel
theorem dX3_delay_26 : decode cX3_delay 26 = .ok (.ireturn, 1) := by decide +kernel
theorem dX3_delay_27 : decode cX3_delay 27 = .ok (.aload_n 0, 1) := by decide +kernel
theorem dX3_delay_28 : decode cX3_delay 28 = .ok (.getfield 28, 3) := by decide +kernel
theorem dX3_delay_31 : decode cX3_delay 31 = .ok (.getfield 114, 3) := by decide +kernel
theorem dX3_delay_34 : decode cX3_delay 34 = .ok (.iload_n 1, 1) := by decide +kernel
theorem dX3_delay_35 : decode cX3_delay 35 = .ok (.iload_n 2, 1) := by decide +kernel
theorem dX3_delay_36 : decode cX3_delay 36 = .ok (.invokestatic 110, 3) := by decide +kernel
theorem dX3_delay_39 : decode cX3_delay 39 = .ok (.iaload, 1) := by decide +kernel
theorem dX3_delay_40 : decode cX3_delay 40 = .ok (.istore 4, 2) := by decide +kernel
theorem dX3_delay_42 : decode cX3_delay 42 = .ok (.aload_n 0, 1) := by decide +kernel
theorem dX3_delay_43 : decode cX3_delay 43 = .ok (.getfield 28, 3) := by decide +kernel
theorem dX3_delay_46 : decode cX3_delay 46 = .ok (.iload_n 1, 1) := by decide +kernel
theorem dX3_delay_47 : decode cX3_delay 47 = .ok (.iload_n 2, 1) := by decide +kernel
theorem dX3_delay_48 : decode cX3_delay 48 = .ok (.iload_n 3, 1) := by decide +kernel
theorem dX3_delay_49 : decode cX3_delay 49 = .ok (.invokevirtual 117, 3) := by decide +kernel
theorem dX3_delay_52 : decode cX3_delay 52 = .ok (.iload 4, 2) := by decide +kernel
theorem dX3_delay_54 : decode cX3_delay 54 = .ok (.ireturn, 1) := by decide +kernel
set_option maxRecDepth 20000 in
theorem ggX3_go_X1_isRead : GoodIn wsX3_go wsX1_isRead := goodIn_r _ [12, 13, 119, 120, 121, 122, 123] (by decide +kernel) (by decide +kernel)
set_option maxRecDepth 20000 in
theorem gX3_go_X1_isRead : GoodIn wsX3_go (wsV RX3 121 RX1 yX1_isRead wsX1_isRead) := goodIn_app (goodIn_of _ (by decide +kernel)) ggX3_go_X1_isRead
set_option maxRecDepth 20000 in
theorem ggX3_go_X0_tick : GoodIn wsX3_go wsX0_tick := goodIn_r _ [18, 19, 20, 21, 22, 23, 24, 25, 26, 27, 28, 29, 30, 17, 31, 32, 33, 34, 35, 36, 37, 38, 39, 40, 41, 42, 43, 44, 45, 46, 47, 48, 49, 50, 51, 11, 52, 53, 54, 55, 56, 57, 58, 59, 60, 61, 62, 63, 64, 65, 66, 67, 68, 69, 70, 71, 72, 73, 74, 75, 76, 77, 78, 79, 80, 81, 82, 83, 84, 85, 86, 87, 88, 89, 90, 91, 92, 93, 94, 95, 96, 108, 109, 110, 111, 112, 113, 114, 115, 116, 117, 118, 119, 120, 121, 122, 123] (by decide +kernel) (by decide +kernel)
set_option maxRecDepth 20000 in
theorem gX3_go_X0_tick : GoodIn wsX3_go (wsV RX3 127 RX0 yX0_tick wsX0_tick) := goodIn_app (goodIn_of _ (by decide +kernel)) ggX3_go_X0_tick
set_option maxRecDepth 20000 in
theorem ggX3_go_X0_localSkew : GoodIn wsX3_go wsX0_localSkew := goodIn_r _ [79, 80, 81, 82, 17, 83, 32, 19, 24, 25, 26, 27, 84, 85, 86, 11, 87, 88, 89, 54, 55, 56, 90, 91, 92, 93, 94, 95, 96, 45, 46, 47, 48, 33, 108, 109, 110, 111, 112, 113, 114, 115, 116, 117, 118, 119, 120, 121, 122, 123] (by decide +kernel) (by decide +kernel)
set_option maxRecDepth 20000 in
theorem gX3_go_X0_localSkew : GoodIn wsX3_go (wsV RX3 130 RX0 yX0_localSkew wsX0_localSkew) := goodIn_app (goodIn_of _ (by decide +kernel)) ggX3_go_X0_localSkew
theorem dX3_go_0 : decode cX3_go 0 = .ok (.iload_n 1, 1) := by decide +kernel
theorem dX3_go_1 : decode cX3_go 1 = .ok (.iconst 1, 1) := by decide +kernel
theorem dX3_go_2 : decode cX3_go 2 = .ok (.if_icmp .lt 9, 3) := by decide +kernel
theorem dX3_go_5 : decode cX3_go 5 = .ok (.iload_n 1, 1) := by decide +kernel
theorem dX3_go_6 : decode cX3_go 6 = .ok (.bipush 100, 2) := by decide +kernel
theorem dX3_go_8 : decode cX3_go 8 = .ok (.if_icmp .le 6, 3) := by decide +kernel
theorem dX3_go_11 : decode cX3_go 11 = .ok (.ldc 55, 2) := by decide +kernel
theorem dX3_go_13 : decode cX3_go 13 = .ok (.ireturn, 1) := by decide +kernel
theorem dX3_go_14 : decode cX3_go 14 = .ok (.aload_n 0, 1) := by decide +kernel
theorem dX3_go_15 : decode cX3_go 15 = .ok (.getfield 19, 3) := by decide +kernel
theorem dX3_go_18 : decode cX3_go 18 = .ok (.invokevirtual 121, 3) := by decide +kernel
theorem dX3_go_21 : decode cX3_go 21 = .ok (.ifCond .eq 18, 3) := by decide +kernel
theorem dX3_go_24 : decode cX3_go 24 = .ok (.aload_n 0, 1) := by decide +kernel
theorem dX3_go_25 : decode cX3_go 25 = .ok (.getfield 28, 3) := by decide +kernel
theorem dX3_go_28 : decode cX3_go 28 = .ok (.getfield 124, 3) := by decide +kernel
theorem dX3_go_31 : decode cX3_go 31 = .ok (.iload_n 1, 1) := by decide +kernel
theorem dX3_go_32 : decode cX3_go 32 = .ok (.iadd, 1) := by decide +kernel
theorem dX3_go_33 : decode cX3_go 33 = .ok (.sipush 9000, 3) := by decide +kernel
theorem dX3_go_36 : decode cX3_go 36 = .ok (.if_icmp .le 6, 3) := by decide +kernel
theorem dX3_go_39 : decode cX3_go 39 = .ok (.ldc 75, 2) := by decide +kernel
theorem dX3_go_41 : decode cX3_go 41 = .ok (.ireturn, 1) := by decide +kernel
theorem dX3_go_42 : decode cX3_go 42 = .ok (.iconst 0, 1) := by decide +kernel
theorem dX3_go_43 : decode cX3_go 43 = .ok (.istore_n 2, 1) := by decide +kernel
theorem dX3_go_44 : decode cX3_go 44 = .ok (.iload_n 2, 1) := by decide +kernel
theorem dX3_go_45 : decode cX3_go 45 = .ok (.iload_n 1, 1) := by decide +kernel
theorem dX3_go_46 : decode cX3_go 46 = .ok (.if_icmp .ge 24, 3) := by decide +kernel
theorem dX3_go_49 : decode cX3_go 49 = .ok (.aload_n 0, 1) := by decide +kernel
theorem dX3_go_50 : decode cX3_go 50 = .ok (.getfield 28, 3) := by decide +kernel
theorem dX3_go_53 : decode cX3_go 53 = .ok (.aload_n 0, 1) := by decide +kernel
theorem dX3_go_54 : decode cX3_go 54 = .ok (.getfield 42, 3) := by decide +kernel
theorem dX3_go_57 : decode cX3_go 57 = .ok (.aload_n 0, 1) := by decide +kernel
theorem dX3_go_58 : decode cX3_go 58 = .ok (.getfield 46, 3) := by decide +kernel
theorem dX3_go_61 : decode cX3_go 61 = .ok (.invokevirtual 127, 3) := by decide +kernel
theorem dX3_go_64 : decode cX3_go 64 = .ok (.iinc 2 1, 3) := by decide +kernel
theorem dX3_go_67 : decode cX3_go 67 = .ok (.goto (-23), 3) := by decide +kernel
theorem dX3_go_70 : decode cX3_go 70 = .ok (.aload_n 0, 1) := by decide +kernel
theorem dX3_go_71 : decode cX3_go 71 = .ok (.dup, 1) := by decide +kernel
theorem dX3_go_72 : decode cX3_go 72 = .ok (.getfield 52, 3) := by decide +kernel
theorem dX3_go_75 : decode cX3_go 75 = .ok (.iload_n 1, 1) := by decide +kernel
theorem dX3_go_76 : decode cX3_go 76 = .ok (.iadd, 1) := by decide +kernel
theorem dX3_go_77 : decode cX3_go 77 = .ok (.putfield 52, 3) := by decide +kernel
theorem dX3_go_80 : decode cX3_go 80 = .ok (.aload_n 0, 1) := by decide +kernel
theorem dX3_go_81 : decode cX3_go 81 = .ok (.getfield 28, 3) := by decide +kernel
theorem dX3_go_84 : decode cX3_go 84 = .ok (.invokevirtual 130, 3) := by decide +kernel
theorem dX3_go_87 : decode cX3_go 87 = .ok (.ireturn, 1) := by decide +kernel
set_option maxRecDepth 20000 in
theorem ggX3_node_X1_hasNode : GoodIn wsX3_node wsX1_hasNode := goodIn_r _ [10, 11, 95, 96, 97, 98, 99] (by decide +kernel) (by decide +kernel)
set_option maxRecDepth 20000 in
theorem gX3_node_X1_hasNode : GoodIn wsX3_node (wsV RX3 86 RX1 yX1_hasNode wsX1_hasNode) := goodIn_app (goodIn_of _ (by decide +kernel)) ggX3_node_X1_hasNode
set_option maxRecDepth 20000 in
theorem ggX3_node_X0_clockOf : GoodIn wsX3_node wsX0_clockOf := goodIn_r _ [16, 17, 84, 85, 86, 87, 88, 89, 90, 91, 92, 93, 94] (by decide +kernel) (by decide +kernel)
set_option maxRecDepth 20000 in
theorem gX3_node_X0_clockOf : GoodIn wsX3_node (wsV RX3 96 RX0 yX0_clockOf wsX0_clockOf) := goodIn_app (goodIn_of _ (by decide +kernel)) ggX3_node_X0_clockOf
set_option maxRecDepth 20000 in
theorem ggX3_node_X0_aheadOf : GoodIn wsX3_node wsX0_aheadOf := goodIn_r _ [21, 22, 23, 24, 25, 15, 26, 27, 28, 29, 30, 31, 32, 33, 34, 13, 14, 16, 17, 35, 36, 37, 9, 38, 39, 40, 41, 42, 43, 44, 45, 46, 47, 48, 84, 85, 86, 87, 88, 89, 90, 91, 92, 93, 94, 95, 96, 97, 98, 99] (by decide +kernel) (by decide +kernel)
set_option maxRecDepth 20000 in
theorem gX3_node_X0_aheadOf : GoodIn wsX3_node (wsV RX3 139 RX0 yX0_aheadOf wsX0_aheadOf) := goodIn_app (goodIn_of _ (by decide +kernel)) ggX3_node_X0_aheadOf
set_option maxRecDepth 20000 in
theorem ggX3_node_X0_behindOf : GoodIn wsX3_node wsX0_behindOf := goodIn_r _ [52, 33, 23, 24, 25, 15, 26, 27, 28, 29, 30, 31, 32, 22, 34, 13, 14, 16, 17, 35, 36, 37, 9, 38, 39, 40, 41, 42, 43, 44, 45, 46, 47, 48, 84, 85, 86, 87, 88, 89, 90, 91, 92, 93, 94, 95, 96, 97, 98, 99] (by decide +kernel) (by decide +kernel)
set_option maxRecDepth 20000 in
theorem gX3_node_X0_behindOf : GoodIn wsX3_node (wsV RX3 142 RX0 yX0_behindOf wsX0_behindOf) := goodIn_app (goodIn_of _ (by decide +kernel)) ggX3_node_X0_behindOf
set_option maxRecDepth 20000 in
theorem ggX3_node_X0_leastUp : GoodIn wsX3_node wsX0_leastUp := goodIn_r _ [56, 23, 24, 25, 15, 26, 27, 28, 29, 30, 31, 32, 22, 33, 34, 13, 14, 16, 17, 35, 36, 37, 9, 38, 39, 40, 41, 42, 43, 44, 45, 46, 47, 48, 57, 58, 59, 60, 61, 62, 63, 64, 65, 84, 85, 86, 87, 88, 89, 90, 91, 92, 93, 94, 95, 96, 97, 98, 99] (by decide +kernel) (by decide +kernel)
set_option maxRecDepth 20000 in
theorem gX3_node_X0_leastUp : GoodIn wsX3_node (wsV RX3 145 RX0 yX0_leastUp wsX0_leastUp) := goodIn_app (goodIn_of _ (by decide +kernel)) ggX3_node_X0_leastUp
set_option maxRecDepth 20000 in
theorem ggX3_node_X0_leastDown : GoodIn wsX3_node wsX0_leastDown := goodIn_r _ [69, 23, 24, 25, 15, 26, 27, 28, 29, 30, 31, 32, 22, 33, 34, 13, 14, 16, 17, 35, 36, 37, 9, 38, 39, 40, 41, 42, 43, 44, 45, 46, 47, 48, 70, 71, 72, 73, 64, 65, 84, 85, 86, 87, 88, 89, 90, 91, 92, 93, 94, 95, 96, 97, 98, 99] (by decide +kernel) (by decide +kernel)
set_option maxRecDepth 20000 in
theorem gX3_node_X0_leastDown : GoodIn wsX3_node (wsV RX3 148 RX0 yX0_leastDown wsX0_leastDown) := goodIn_app (goodIn_of _ (by decide +kernel)) ggX3_node_X0_leastDown
theorem dX3_node_0 : decode cX3_node 0 = .ok (.aload_n 0, 1) := by decide +kernel
theorem dX3_node_1 : decode cX3_node 1 = .ok (.getfield 19, 3) := by decide +kernel
theorem dX3_node_4 : decode cX3_node 4 = .ok (.iload_n 1, 1) := by decide +kernel
theorem dX3_node_5 : decode cX3_node 5 = .ok (.invokevirtual 86, 3) := by decide +kernel
theorem dX3_node_8 : decode cX3_node 8 = .ok (.ifCond .ne 6, 3) := by decide +kernel
theorem dX3_node_11 : decode cX3_node 11 = .ok (.ldc 90, 2) := by decide +kernel
theorem dX3_node_13 : decode cX3_node 13 = .ok (.ireturn, 1) := by decide +kernel
theorem dX3_node_14 : decode cX3_node 14 = .ok (.iload_n 2, 1) := by decide +kernel
theorem dX3_node_15 : decode cX3_node 15 = .ok (.tableswitch 142 0 8 #[49, 58, 68, 78, 88, 97, 106, 119, 132], 49) := by decide +kernel
theorem dX3_node_64 : decode cX3_node 64 = .ok (.aload_n 0, 1) := by decide +kernel
theorem dX3_node_65 : decode cX3_node 65 = .ok (.getfield 28, 3) := by decide +kernel
theorem dX3_node_68 : decode cX3_node 68 = .ok (.iload_n 1, 1) := by decide +kernel
theorem dX3_node_69 : decode cX3_node 69 = .ok (.invokevirtual 96, 3) := by decide +kernel
theorem dX3_node_72 : decode cX3_node 72 = .ok (.ireturn, 1) := by decide +kernel
theorem dX3_node_73 : decode cX3_node 73 = .ok (.aload_n 0, 1) := by decide +kernel
theorem dX3_node_74 : decode cX3_node 74 = .ok (.getfield 28, 3) := by decide +kernel
theorem dX3_node_77 : decode cX3_node 77 = .ok (.getfield 91, 3) := by decide +kernel
theorem dX3_node_80 : decode cX3_node 80 = .ok (.iload_n 1, 1) := by decide +kernel
theorem dX3_node_81 : decode cX3_node 81 = .ok (.iaload, 1) := by decide +kernel
theorem dX3_node_82 : decode cX3_node 82 = .ok (.ireturn, 1) := by decide +kernel
theorem dX3_node_83 : decode cX3_node 83 = .ok (.aload_n 0, 1) := by decide +kernel
theorem dX3_node_84 : decode cX3_node 84 = .ok (.getfield 28, 3) := by decide +kernel
theorem dX3_node_87 : decode cX3_node 87 = .ok (.getfield 133, 3) := by decide +kernel
theorem dX3_node_90 : decode cX3_node 90 = .ok (.iload_n 1, 1) := by decide +kernel
theorem dX3_node_91 : decode cX3_node 91 = .ok (.iaload, 1) := by decide +kernel
theorem dX3_node_92 : decode cX3_node 92 = .ok (.ireturn, 1) := by decide +kernel
theorem dX3_node_93 : decode cX3_node 93 = .ok (.aload_n 0, 1) := by decide +kernel
theorem dX3_node_94 : decode cX3_node 94 = .ok (.getfield 19, 3) := by decide +kernel
theorem dX3_node_97 : decode cX3_node 97 = .ok (.getfield 136, 3) := by decide +kernel
theorem dX3_node_100 : decode cX3_node 100 = .ok (.iload_n 1, 1) := by decide +kernel
theorem dX3_node_101 : decode cX3_node 101 = .ok (.iaload, 1) := by decide +kernel
theorem dX3_node_102 : decode cX3_node 102 = .ok (.ireturn, 1) := by decide +kernel
theorem dX3_node_103 : decode cX3_node 103 = .ok (.aload_n 0, 1) := by decide +kernel
theorem dX3_node_104 : decode cX3_node 104 = .ok (.getfield 28, 3) := by decide +kernel
theorem dX3_node_107 : decode cX3_node 107 = .ok (.iload_n 1, 1) := by decide +kernel
theorem dX3_node_108 : decode cX3_node 108 = .ok (.invokevirtual 139, 3) := by decide +kernel
theorem dX3_node_111 : decode cX3_node 111 = .ok (.ireturn, 1) := by decide +kernel
theorem dX3_node_112 : decode cX3_node 112 = .ok (.aload_n 0, 1) := by decide +kernel
theorem dX3_node_113 : decode cX3_node 113 = .ok (.getfield 28, 3) := by decide +kernel
theorem dX3_node_116 : decode cX3_node 116 = .ok (.iload_n 1, 1) := by decide +kernel
theorem dX3_node_117 : decode cX3_node 117 = .ok (.invokevirtual 142, 3) := by decide +kernel
theorem dX3_node_120 : decode cX3_node 120 = .ok (.ireturn, 1) := by decide +kernel
theorem dX3_node_121 : decode cX3_node 121 = .ok (.aload_n 0, 1) := by decide +kernel
theorem dX3_node_122 : decode cX3_node 122 = .ok (.getfield 28, 3) := by decide +kernel
theorem dX3_node_125 : decode cX3_node 125 = .ok (.iload_n 1, 1) := by decide +kernel
theorem dX3_node_126 : decode cX3_node 126 = .ok (.aload_n 0, 1) := by decide +kernel
theorem dX3_node_127 : decode cX3_node 127 = .ok (.getfield 42, 3) := by decide +kernel
theorem dX3_node_130 : decode cX3_node 130 = .ok (.invokevirtual 145, 3) := by decide +kernel
theorem dX3_node_133 : decode cX3_node 133 = .ok (.ireturn, 1) := by decide +kernel
theorem dX3_node_134 : decode cX3_node 134 = .ok (.aload_n 0, 1) := by decide +kernel
theorem dX3_node_135 : decode cX3_node 135 = .ok (.getfield 28, 3) := by decide +kernel
theorem dX3_node_138 : decode cX3_node 138 = .ok (.iload_n 1, 1) := by decide +kernel
theorem dX3_node_139 : decode cX3_node 139 = .ok (.aload_n 0, 1) := by decide +kernel
theorem dX3_node_140 : decode cX3_node 140 = .ok (.getfield 42, 3) := by decide +kernel
theorem dX3_node_143 : decode cX3_node 143 = .ok (.invokevirtual 148, 3) := by decide +kernel
theorem dX3_node_146 : decode cX3_node 146 = .ok (.ireturn, 1) := by decide +kernel
theorem dX3_node_147 : decode cX3_node 147 = .ok (.aload_n 0, 1) := by decide +kernel
theorem dX3_node_148 : decode cX3_node 148 = .ok (.getfield 28, 3) := by decide +kernel
theorem dX3_node_151 : decode cX3_node 151 = .ok (.getfield 151, 3) := by decide +kernel
theorem dX3_node_154 : decode cX3_node 154 = .ok (.iload_n 1, 1) := by decide +kernel
theorem dX3_node_155 : decode cX3_node 155 = .ok (.iaload, 1) := by decide +kernel
theorem dX3_node_156 : decode cX3_node 156 = .ok (.ireturn, 1) := by decide +kernel
theorem dX3_node_157 : decode cX3_node 157 = .ok (.ldc 55, 2) := by decide +kernel
theorem dX3_node_159 : decode cX3_node 159 = .ok (.ireturn, 1) := by decide +kernel
set_option maxRecDepth 20000 in
theorem ggX3_link_X1_hasLink : GoodIn wsX3_link wsX1_hasLink := goodIn_r _ [9, 10, 11, 12, 13, 8, 14, 15, 16, 17, 18, 61, 62, 63, 64, 65] (by decide +kernel) (by decide +kernel)
set_option maxRecDepth 20000 in
theorem gX3_link_X1_hasLink : GoodIn wsX3_link (wsV RX3 103 RX1 yX1_hasLink wsX1_hasLink) := goodIn_app (goodIn_of _ (by decide +kernel)) ggX3_link_X1_hasLink
set_option maxRecDepth 20000 in
theorem ggX3_link_X3_cell : GoodIn wsX3_link wsX3_cell := goodIn_r _ [18] (by decide +kernel) (by decide +kernel)
set_option maxRecDepth 20000 in
theorem gX3_link_X3_cell : GoodIn wsX3_link (va_wsS RX3 110 yX3_cell wsX3_cell) := goodIn_app (goodIn_of _ (by decide +kernel)) ggX3_link_X3_cell
set_option maxRecDepth 20000 in
theorem ggX3_link_X0_guess : GoodIn wsX3_link wsX0_guess := goodIn_r _ [24, 25, 26, 27, 16, 17, 18, 50, 51, 52, 53, 54, 55, 56, 57, 58, 59, 60] (by decide +kernel) (by decide +kernel)
set_option maxRecDepth 20000 in
theorem gX3_link_X0_guess : GoodIn wsX3_link (wsV RX3 154 RX0 yX0_guess wsX0_guess) := goodIn_app (goodIn_of _ (by decide +kernel)) ggX3_link_X0_guess
set_option maxRecDepth 20000 in
theorem ggX3_link_X0_skewOf : GoodIn wsX3_link wsX0_skewOf := goodIn_r _ [31, 32, 33, 34, 35, 36, 37, 38, 23, 39, 26, 50, 51, 52, 53, 54, 55, 56, 57, 58, 59, 60] (by decide +kernel) (by decide +kernel)
set_option maxRecDepth 20000 in
theorem gX3_link_X0_skewOf : GoodIn wsX3_link (wsV RX3 157 RX0 yX0_skewOf wsX0_skewOf) := goodIn_app (goodIn_of _ (by decide +kernel)) ggX3_link_X0_skewOf
theorem dX3_link_0 : decode cX3_link 0 = .ok (.aload_n 0, 1) := by decide +kernel
theorem dX3_link_1 : decode cX3_link 1 = .ok (.getfield 19, 3) := by decide +kernel
theorem dX3_link_4 : decode cX3_link 4 = .ok (.iload_n 1, 1) := by decide +kernel
theorem dX3_link_5 : decode cX3_link 5 = .ok (.iload_n 2, 1) := by decide +kernel
theorem dX3_link_6 : decode cX3_link 6 = .ok (.invokevirtual 103, 3) := by decide +kernel
theorem dX3_link_9 : decode cX3_link 9 = .ok (.ifCond .ne 6, 3) := by decide +kernel
theorem dX3_link_12 : decode cX3_link 12 = .ok (.ldc 90, 2) := by decide +kernel
theorem dX3_link_14 : decode cX3_link 14 = .ok (.ireturn, 1) := by decide +kernel
theorem dX3_link_15 : decode cX3_link 15 = .ok (.iload_n 3, 1) := by decide +kernel
theorem dX3_link_16 : decode cX3_link 16 = .ok (.tableswitch 80 0 3 #[32, 46, 60, 70], 32) := by decide +kernel
theorem dX3_link_48 : decode cX3_link 48 = .ok (.aload_n 0, 1) := by decide +kernel
theorem dX3_link_49 : decode cX3_link 49 = .ok (.getfield 28, 3) := by decide +kernel
theorem dX3_link_52 : decode cX3_link 52 = .ok (.getfield 114, 3) := by decide +kernel
theorem dX3_link_55 : decode cX3_link 55 = .ok (.iload_n 1, 1) := by decide +kernel
theorem dX3_link_56 : decode cX3_link 56 = .ok (.iload_n 2, 1) := by decide +kernel
theorem dX3_link_57 : decode cX3_link 57 = .ok (.invokestatic 110, 3) := by decide +kernel
theorem dX3_link_60 : decode cX3_link 60 = .ok (.iaload, 1) := by decide +kernel
theorem dX3_link_61 : decode cX3_link 61 = .ok (.ireturn, 1) := by decide +kernel
theorem dX3_link_62 : decode cX3_link 62 = .ok (.aload_n 0, 1) := by decide +kernel
theorem dX3_link_63 : decode cX3_link 63 = .ok (.getfield 28, 3) := by decide +kernel
theorem dX3_link_66 : decode cX3_link 66 = .ok (.getfield 107, 3) := by decide +kernel
theorem dX3_link_69 : decode cX3_link 69 = .ok (.iload_n 1, 1) := by decide +kernel
theorem dX3_link_70 : decode cX3_link 70 = .ok (.iload_n 2, 1) := by decide +kernel
theorem dX3_link_71 : decode cX3_link 71 = .ok (.invokestatic 110, 3) := by decide +kernel
theorem dX3_link_74 : decode cX3_link 74 = .ok (.iaload, 1) := by decide +kernel
theorem dX3_link_75 : decode cX3_link 75 = .ok (.ireturn, 1) := by decide +kernel
theorem dX3_link_76 : decode cX3_link 76 = .ok (.aload_n 0, 1) := by decide +kernel
theorem dX3_link_77 : decode cX3_link 77 = .ok (.getfield 28, 3) := by decide +kernel
theorem dX3_link_80 : decode cX3_link 80 = .ok (.iload_n 1, 1) := by decide +kernel
theorem dX3_link_81 : decode cX3_link 81 = .ok (.iload_n 2, 1) := by decide +kernel
theorem dX3_link_82 : decode cX3_link 82 = .ok (.invokevirtual 154, 3) := by decide +kernel
theorem dX3_link_85 : decode cX3_link 85 = .ok (.ireturn, 1) := by decide +kernel
theorem dX3_link_86 : decode cX3_link 86 = .ok (.aload_n 0, 1) := by decide +kernel
theorem dX3_link_87 : decode cX3_link 87 = .ok (.getfield 28, 3) := by decide +kernel
theorem dX3_link_90 : decode cX3_link 90 = .ok (.iload_n 1, 1) := by decide +kernel
theorem dX3_link_91 : decode cX3_link 91 = .ok (.iload_n 2, 1) := by decide +kernel
theorem dX3_link_92 : decode cX3_link 92 = .ok (.invokevirtual 157, 3) := by decide +kernel
theorem dX3_link_95 : decode cX3_link 95 = .ok (.ireturn, 1) := by decide +kernel
theorem dX3_link_96 : decode cX3_link 96 = .ok (.ldc 55, 2) := by decide +kernel
theorem dX3_link_98 : decode cX3_link 98 = .ok (.ireturn, 1) := by decide +kernel
set_option maxRecDepth 20000 in
theorem ggX3_hops_X1_hasNode : GoodIn wsX3_hops wsX1_hasNode := goodIn_r _ [7, 8, 28, 29, 30, 31, 32] (by decide +kernel) (by decide +kernel)
set_option maxRecDepth 20000 in
theorem gX3_hops_X1_hasNode : GoodIn wsX3_hops (wsV RX3 86 RX1 yX1_hasNode wsX1_hasNode) := goodIn_app (goodIn_of _ (by decide +kernel)) ggX3_hops_X1_hasNode
set_option maxRecDepth 20000 in
theorem ggX3_hops_X1_hopsOf : GoodIn wsX3_hops wsX1_hopsOf := goodIn_r _ [12, 13, 14, 15, 16, 17, 28, 29, 30, 31, 32] (by decide +kernel) (by decide +kernel)
set_option maxRecDepth 20000 in
theorem gX3_hops_X1_hopsOf : GoodIn wsX3_hops (wsV RX3 160 RX1 yX1_hopsOf wsX1_hopsOf) := goodIn_app (goodIn_of _ (by decide +kernel)) ggX3_hops_X1_hopsOf
theorem dX3_hops_0 : decode cX3_hops 0 = .ok (.aload_n 0, 1) := by decide +kernel
theorem dX3_hops_1 : decode cX3_hops 1 = .ok (.getfield 19, 3) := by decide +kernel
theorem dX3_hops_4 : decode cX3_hops 4 = .ok (.iload_n 1, 1) := by decide +kernel
theorem dX3_hops_5 : decode cX3_hops 5 = .ok (.invokevirtual 86, 3) := by decide +kernel
theorem dX3_hops_8 : decode cX3_hops 8 = .ok (.ifCond .eq 14, 3) := by decide +kernel
theorem dX3_hops_11 : decode cX3_hops 11 = .ok (.aload_n 0, 1) := by decide +kernel
theorem dX3_hops_12 : decode cX3_hops 12 = .ok (.getfield 19, 3) := by decide +kernel
theorem dX3_hops_15 : decode cX3_hops 15 = .ok (.iload_n 2, 1) := by decide +kernel
theorem dX3_hops_16 : decode cX3_hops 16 = .ok (.invokevirtual 86, 3) := by decide +kernel
theorem dX3_hops_19 : decode cX3_hops 19 = .ok (.ifCond .ne 6, 3) := by decide +kernel
theorem dX3_hops_22 : decode cX3_hops 22 = .ok (.ldc 90, 2) := by decide +kernel
theorem dX3_hops_24 : decode cX3_hops 24 = .ok (.ireturn, 1) := by decide +kernel
theorem dX3_hops_25 : decode cX3_hops 25 = .ok (.aload_n 0, 1) := by decide +kernel
theorem dX3_hops_26 : decode cX3_hops 26 = .ok (.getfield 19, 3) := by decide +kernel
theorem dX3_hops_29 : decode cX3_hops 29 = .ok (.iload_n 1, 1) := by decide +kernel
theorem dX3_hops_30 : decode cX3_hops 30 = .ok (.iload_n 2, 1) := by decide +kernel
theorem dX3_hops_31 : decode cX3_hops 31 = .ok (.invokevirtual 160, 3) := by decide +kernel
theorem dX3_hops_34 : decode cX3_hops 34 = .ok (.ireturn, 1) := by decide +kernel
set_option maxRecDepth 20000 in
theorem ggX3_skew_X1_isRead : GoodIn wsX3_skew wsX1_isRead := goodIn_r _ [10, 11, 79, 80, 81, 82, 83] (by decide +kernel) (by decide +kernel)
set_option maxRecDepth 20000 in
theorem gX3_skew_X1_isRead : GoodIn wsX3_skew (wsV RX3 121 RX1 yX1_isRead wsX1_isRead) := goodIn_app (goodIn_of _ (by decide +kernel)) ggX3_skew_X1_isRead
set_option maxRecDepth 20000 in
theorem ggX3_skew_X0_localSkew : GoodIn wsX3_skew wsX0_localSkew := goodIn_r _ [16, 17, 18, 19, 15, 20, 21, 22, 23, 24, 25, 26, 27, 28, 29, 9, 30, 31, 32, 33, 34, 35, 36, 37, 38, 39, 40, 41, 42, 43, 44, 45, 46, 47, 68, 69, 70, 71, 72, 73, 74, 75, 76, 77, 78, 79, 80, 81, 82, 83] (by decide +kernel) (by decide +kernel)
set_option maxRecDepth 20000 in
theorem gX3_skew_X0_localSkew : GoodIn wsX3_skew (wsV RX3 130 RX0 yX0_localSkew wsX0_localSkew) := goodIn_app (goodIn_of _ (by decide +kernel)) ggX3_skew_X0_localSkew
set_option maxRecDepth 20000 in
theorem ggX3_skew_X0_globalSkew : GoodIn wsX3_skew wsX0_globalSkew := goodIn_r _ [51, 22, 23, 24, 25, 26, 36, 37, 38, 15, 39, 40, 41, 42, 43, 44, 45, 46, 47, 68, 69, 70, 71, 72, 73, 74, 75, 76, 77, 78, 79, 80, 81, 82, 83] (by decide +kernel) (by decide +kernel)
set_option maxRecDepth 20000 in
theorem gX3_skew_X0_globalSkew : GoodIn wsX3_skew (wsV RX3 163 RX0 yX0_globalSkew wsX0_globalSkew) := goodIn_app (goodIn_of _ (by decide +kernel)) ggX3_skew_X0_globalSkew
set_option maxRecDepth 20000 in
theorem ggX3_skew_X3_levelReaching : GoodIn wsX3_skew wsX3_levelReaching := goodIn_r _ [54, 55, 56, 34, 57] (by decide +kernel) (by decide +kernel)
set_option maxRecDepth 20000 in
theorem gX3_skew_X3_levelReaching : GoodIn wsX3_skew (va_wsS RX3 166 yX3_levelReaching wsX3_levelReaching) := goodIn_app (goodIn_of _ (by decide +kernel)) ggX3_skew_X3_levelReaching
theorem dX3_skew_0 : decode cX3_skew 0 = .ok (.iload_n 1, 1) := by decide +kernel
theorem dX3_skew_1 : decode cX3_skew 1 = .ok (.ifCond .lt 8, 3) := by decide +kernel
theorem dX3_skew_4 : decode cX3_skew 4 = .ok (.iload_n 1, 1) := by decide +kernel
theorem dX3_skew_5 : decode cX3_skew 5 = .ok (.iconst 3, 1) := by decide +kernel
theorem dX3_skew_6 : decode cX3_skew 6 = .ok (.if_icmp .le 6, 3) := by decide +kernel
theorem dX3_skew_9 : decode cX3_skew 9 = .ok (.ldc 55, 2) := by decide +kernel
theorem dX3_skew_11 : decode cX3_skew 11 = .ok (.ireturn, 1) := by decide +kernel
theorem dX3_skew_12 : decode cX3_skew 12 = .ok (.aload_n 0, 1) := by decide +kernel
theorem dX3_skew_13 : decode cX3_skew 13 = .ok (.getfield 19, 3) := by decide +kernel
theorem dX3_skew_16 : decode cX3_skew 16 = .ok (.invokevirtual 121, 3) := by decide +kernel
theorem dX3_skew_19 : decode cX3_skew 19 = .ok (.ifCond .ne 6, 3) := by decide +kernel
theorem dX3_skew_22 : decode cX3_skew 22 = .ok (.ldc 75, 2) := by decide +kernel
theorem dX3_skew_24 : decode cX3_skew 24 = .ok (.ireturn, 1) := by decide +kernel
theorem dX3_skew_25 : decode cX3_skew 25 = .ok (.iload_n 1, 1) := by decide +kernel
theorem dX3_skew_26 : decode cX3_skew 26 = .ok (.tableswitch 57 0 2 #[26, 34, 42], 26) := by decide +kernel
theorem dX3_skew_52 : decode cX3_skew 52 = .ok (.aload_n 0, 1) := by decide +kernel
theorem dX3_skew_53 : decode cX3_skew 53 = .ok (.getfield 28, 3) := by decide +kernel
theorem dX3_skew_56 : decode cX3_skew 56 = .ok (.invokevirtual 130, 3) := by decide +kernel
theorem dX3_skew_59 : decode cX3_skew 59 = .ok (.ireturn, 1) := by decide +kernel
theorem dX3_skew_60 : decode cX3_skew 60 = .ok (.aload_n 0, 1) := by decide +kernel
theorem dX3_skew_61 : decode cX3_skew 61 = .ok (.getfield 28, 3) := by decide +kernel
theorem dX3_skew_64 : decode cX3_skew 64 = .ok (.invokevirtual 163, 3) := by decide +kernel
theorem dX3_skew_67 : decode cX3_skew 67 = .ok (.ireturn, 1) := by decide +kernel
theorem dX3_skew_68 : decode cX3_skew 68 = .ok (.aload_n 0, 1) := by decide +kernel
theorem dX3_skew_69 : decode cX3_skew 69 = .ok (.getfield 28, 3) := by decide +kernel
theorem dX3_skew_72 : decode cX3_skew 72 = .ok (.invokevirtual 130, 3) := by decide +kernel
theorem dX3_skew_75 : decode cX3_skew 75 = .ok (.aload_n 0, 1) := by decide +kernel
theorem dX3_skew_76 : decode cX3_skew 76 = .ok (.getfield 42, 3) := by decide +kernel
theorem dX3_skew_79 : decode cX3_skew 79 = .ok (.invokestatic 166, 3) := by decide +kernel
theorem dX3_skew_82 : decode cX3_skew 82 = .ok (.ireturn, 1) := by decide +kernel
theorem dX3_skew_83 : decode cX3_skew 83 = .ok (.aload_n 0, 1) := by decide +kernel
theorem dX3_skew_84 : decode cX3_skew 84 = .ok (.getfield 28, 3) := by decide +kernel
theorem dX3_skew_87 : decode cX3_skew 87 = .ok (.getfield 169, 3) := by decide +kernel
theorem dX3_skew_90 : decode cX3_skew 90 = .ok (.ireturn, 1) := by decide +kernel
set_option maxRecDepth 20000 in
theorem ggX3_spread_X1_isRead : GoodIn wsX3_spread wsX1_isRead := goodIn_r _ [9, 10, 53, 54, 55, 56, 57] (by decide +kernel) (by decide +kernel)
set_option maxRecDepth 20000 in
theorem gX3_spread_X1_isRead : GoodIn wsX3_spread (wsV RX3 121 RX1 yX1_isRead wsX1_isRead) := goodIn_app (goodIn_of _ (by decide +kernel)) ggX3_spread_X1_isRead
set_option maxRecDepth 20000 in
theorem ggX3_spread_X0_skewByHops : GoodIn wsX3_spread wsX0_skewByHops := goodIn_r _ [15, 16, 17, 18, 19, 20, 21, 22, 23, 24, 8, 25, 26, 27, 28, 29, 30, 31, 32, 33, 14, 34, 35, 36, 37, 38, 39, 40, 41, 42, 58, 59, 60, 61, 62, 63, 64, 65, 66, 67, 68, 53, 54, 55, 56, 57] (by decide +kernel) (by decide +kernel)
set_option maxRecDepth 20000 in
theorem gX3_spread_X0_skewByHops : GoodIn wsX3_spread (wsV RX3 172 RX0 yX0_skewByHops wsX0_skewByHops) := goodIn_app (goodIn_of _ (by decide +kernel)) ggX3_spread_X0_skewByHops
theorem dX3_spread_0 : decode cX3_spread 0 = .ok (.iload_n 1, 1) := by decide +kernel
theorem dX3_spread_1 : decode cX3_spread 1 = .ok (.iconst 1, 1) := by decide +kernel
theorem dX3_spread_2 : decode cX3_spread 2 = .ok (.if_icmp .lt 9, 3) := by decide +kernel
theorem dX3_spread_5 : decode cX3_spread 5 = .ok (.iload_n 1, 1) := by decide +kernel
theorem dX3_spread_6 : decode cX3_spread 6 = .ok (.bipush 6, 2) := by decide +kernel
theorem dX3_spread_8 : decode cX3_spread 8 = .ok (.if_icmp .lt 6, 3) := by decide +kernel
theorem dX3_spread_11 : decode cX3_spread 11 = .ok (.ldc 55, 2) := by decide +kernel
theorem dX3_spread_13 : decode cX3_spread 13 = .ok (.ireturn, 1) := by decide +kernel
theorem dX3_spread_14 : decode cX3_spread 14 = .ok (.aload_n 0, 1) := by decide +kernel
theorem dX3_spread_15 : decode cX3_spread 15 = .ok (.getfield 19, 3) := by decide +kernel
theorem dX3_spread_18 : decode cX3_spread 18 = .ok (.invokevirtual 121, 3) := by decide +kernel
theorem dX3_spread_21 : decode cX3_spread 21 = .ok (.ifCond .ne 6, 3) := by decide +kernel
theorem dX3_spread_24 : decode cX3_spread 24 = .ok (.ldc 75, 2) := by decide +kernel
theorem dX3_spread_26 : decode cX3_spread 26 = .ok (.ireturn, 1) := by decide +kernel
theorem dX3_spread_27 : decode cX3_spread 27 = .ok (.aload_n 0, 1) := by decide +kernel
theorem dX3_spread_28 : decode cX3_spread 28 = .ok (.getfield 28, 3) := by decide +kernel
theorem dX3_spread_31 : decode cX3_spread 31 = .ok (.iload_n 1, 1) := by decide +kernel
theorem dX3_spread_32 : decode cX3_spread 32 = .ok (.invokevirtual 172, 3) := by decide +kernel
theorem dX3_spread_35 : decode cX3_spread 35 = .ok (.ireturn, 1) := by decide +kernel
set_option maxRecDepth 20000 in
theorem ggX3_worst_X1_isRead : GoodIn wsX3_worst wsX1_isRead := goodIn_r _ [8, 9, 127, 128, 129, 130, 131] (by decide +kernel) (by decide +kernel)
set_option maxRecDepth 20000 in
theorem gX3_worst_X1_isRead : GoodIn wsX3_worst (wsV RX3 121 RX1 yX1_isRead wsX1_isRead) := goodIn_app (goodIn_of _ (by decide +kernel)) ggX3_worst_X1_isRead
set_option maxRecDepth 20000 in
theorem ggX3_worst_X3_searchWorst : GoodIn wsX3_worst wsX3_searchWorst := goodIn_r _ [14, 15, 16, 2, 17, 18, 19, 20, 21, 22, 23, 24, 25, 26, 27, 28, 29, 30, 31, 32, 33, 34, 35, 36, 37, 38, 39, 40, 41, 42, 43, 44, 45, 46, 47, 48, 49, 50, 51, 52, 53, 54, 55, 56, 57, 58, 59, 60, 61, 62, 63, 64, 65, 66, 67, 7, 68, 69, 70, 13, 71, 72, 73, 74, 75, 76, 77, 78, 79, 80, 81, 82, 83, 84, 85, 86, 87, 88, 89, 90, 91, 92, 93, 94, 95, 96, 97, 98, 99, 100, 101, 102, 103, 104, 105, 106, 107, 108, 109, 117, 118, 119, 120, 121, 122, 123, 124, 125, 126, 127, 128, 129, 130, 131, 132, 133, 134, 135, 136, 137, 138, 139, 140, 141, 142] (by decide +kernel) (by decide +kernel)
set_option maxRecDepth 20000 in
theorem gX3_worst_X3_searchWorst : GoodIn wsX3_worst (wsV RX3 175 RX3 yX3_searchWorst wsX3_searchWorst) := goodIn_app (goodIn_of _ (by decide +kernel)) ggX3_worst_X3_searchWorst
set_option maxRecDepth 20000 in
theorem ggX3_worst_X3_skewOfWorst : GoodIn wsX3_worst wsX3_skewOfWorst := goodIn_r _ [112] (by decide +kernel) (by decide +kernel)
set_option maxRecDepth 20000 in
theorem gX3_worst_X3_skewOfWorst : GoodIn wsX3_worst (va_wsS RX3 179 yX3_skewOfWorst wsX3_skewOfWorst) := goodIn_app (goodIn_of _ (by decide +kernel)) ggX3_worst_X3_skewOfWorst
set_option maxRecDepth 20000 in
theorem ggX3_worst_X3_nodesOfWorst : GoodIn wsX3_worst wsX3_nodesOfWorst := goodIn_r _ [115, 116] (by decide +kernel) (by decide +kernel)
set_option maxRecDepth 20000 in
theorem gX3_worst_X3_nodesOfWorst : GoodIn wsX3_worst (va_wsS RX3 183 yX3_nodesOfWorst wsX3_nodesOfWorst) := goodIn_app (goodIn_of _ (by decide +kernel)) ggX3_worst_X3_nodesOfWorst
theorem dX3_worst_0 : decode cX3_worst 0 = .ok (.iload_n 1, 1) := by decide +kernel
theorem dX3_worst_1 : decode cX3_worst 1 = .ok (.iconst 1, 1) := by decide +kernel
theorem dX3_worst_2 : decode cX3_worst 2 = .ok (.if_icmp .lt 18, 3) := by decide +kernel
theorem dX3_worst_5 : decode cX3_worst 5 = .ok (.iload_n 1, 1) := by decide +kernel
theorem dX3_worst_6 : decode cX3_worst 6 = .ok (.bipush 12, 2) := by decide +kernel
theorem dX3_worst_8 : decode cX3_worst 8 = .ok (.if_icmp .gt 12, 3) := by decide +kernel
theorem dX3_worst_11 : decode cX3_worst 11 = .ok (.iload_n 2, 1) := by decide +kernel
theorem dX3_worst_12 : decode cX3_worst 12 = .ok (.ifCond .lt 8, 3) := by decide +kernel
theorem dX3_worst_15 : decode cX3_worst 15 = .ok (.iload_n 2, 1) := by decide +kernel
theorem dX3_worst_16 : decode cX3_worst 16 = .ok (.iconst 1, 1) := by decide +kernel
theorem dX3_worst_17 : decode cX3_worst 17 = .ok (.if_icmp .le 6, 3) := by decide +kernel
theorem dX3_worst_20 : decode cX3_worst 20 = .ok (.ldc 55, 2) := by decide +kernel
theorem dX3_worst_22 : decode cX3_worst 22 = .ok (.ireturn, 1) := by decide +kernel
theorem dX3_worst_23 : decode cX3_worst 23 = .ok (.aload_n 0, 1) := by decide +kernel
theorem dX3_worst_24 : decode cX3_worst 24 = .ok (.getfield 19, 3) := by decide +kernel
theorem dX3_worst_27 : decode cX3_worst 27 = .ok (.invokevirtual 121, 3) := by decide +kernel
theorem dX3_worst_30 : decode cX3_worst 30 = .ok (.ifCond .ne 6, 3) := by decide +kernel
theorem dX3_worst_33 : decode cX3_worst 33 = .ok (.ldc 75, 2) := by decide +kernel
theorem dX3_worst_35 : decode cX3_worst 35 = .ok (.ireturn, 1) := by decide +kernel
theorem dX3_worst_36 : decode cX3_worst 36 = .ok (.aload_n 0, 1) := by decide +kernel
theorem dX3_worst_37 : decode cX3_worst 37 = .ok (.iload_n 1, 1) := by decide +kernel
theorem dX3_worst_38 : decode cX3_worst 38 = .ok (.invokevirtual 175, 3) := by decide +kernel
theorem dX3_worst_41 : decode cX3_worst 41 = .ok (.lstore_n 3, 1) := by decide +kernel
theorem dX3_worst_42 : decode cX3_worst 42 = .ok (.iload_n 2, 1) := by decide +kernel
theorem dX3_worst_43 : decode cX3_worst 43 = .ok (.ifCond .ne 10, 3) := by decide +kernel
theorem dX3_worst_46 : decode cX3_worst 46 = .ok (.lload_n 3, 1) := by decide +kernel
theorem dX3_worst_47 : decode cX3_worst 47 = .ok (.invokestatic 179, 3) := by decide +kernel
theorem dX3_worst_50 : decode cX3_worst 50 = .ok (.goto 7, 3) := by decide +kernel
theorem dX3_worst_53 : decode cX3_worst 53 = .ok (.lload_n 3, 1) := by decide +kernel
theorem dX3_worst_54 : decode cX3_worst 54 = .ok (.invokestatic 183, 3) := by decide +kernel
theorem dX3_worst_57 : decode cX3_worst 57 = .ok (.ireturn, 1) := by decide +kernel
set_option maxRecDepth 20000 in
theorem ggX3_image_X1_isRead : GoodIn wsX3_image wsX1_isRead := goodIn_r _ [10, 11, 54, 55, 56, 57, 58] (by decide +kernel) (by decide +kernel)
set_option maxRecDepth 20000 in
theorem gX3_image_X1_isRead : GoodIn wsX3_image (wsV RX3 121 RX1 yX1_isRead wsX1_isRead) := goodIn_app (goodIn_of _ (by decide +kernel)) ggX3_image_X1_isRead
set_option maxRecDepth 20000 in
theorem ggX3_image_X0_copyAll : GoodIn wsX3_image wsX0_copyAll := goodIn_r _ [16, 17, 18, 19, 20, 21, 22, 23, 24, 25, 26, 27, 28, 29, 15, 30, 31, 32, 43, 44, 45, 46, 47, 48, 49, 50, 51, 52, 53] (by decide +kernel) (by decide +kernel)
set_option maxRecDepth 20000 in
theorem gX3_image_X0_copyAll : GoodIn wsX3_image (wsV RX3 186 RX0 yX0_copyAll wsX0_copyAll) := goodIn_app (goodIn_of _ (by decide +kernel)) ggX3_image_X0_copyAll
theorem dX3_image_0 : decode cX3_image 0 = .ok (.aload_n 0, 1) := by decide +kernel
theorem dX3_image_1 : decode cX3_image 1 = .ok (.getfield 19, 3) := by decide +kernel
theorem dX3_image_4 : decode cX3_image 4 = .ok (.invokevirtual 121, 3) := by decide +kernel
theorem dX3_image_7 : decode cX3_image 7 = .ok (.ifCond .ne 6, 3) := by decide +kernel
theorem dX3_image_10 : decode cX3_image 10 = .ok (.ldc 75, 2) := by decide +kernel
theorem dX3_image_12 : decode cX3_image 12 = .ok (.ireturn, 1) := by decide +kernel
theorem dX3_image_13 : decode cX3_image 13 = .ok (.aload_n 0, 1) := by decide +kernel
theorem dX3_image_14 : decode cX3_image 14 = .ok (.getfield 32, 3) := by decide +kernel
theorem dX3_image_17 : decode cX3_image 17 = .ok (.aload_n 0, 1) := by decide +kernel
theorem dX3_image_18 : decode cX3_image 18 = .ok (.getfield 28, 3) := by decide +kernel
theorem dX3_image_21 : decode cX3_image 21 = .ok (.invokevirtual 186, 3) := by decide +kernel
theorem dX3_image_24 : decode cX3_image 24 = .ok (.aload_n 0, 1) := by decide +kernel
theorem dX3_image_25 : decode cX3_image 25 = .ok (.iconst 1, 1) := by decide +kernel
theorem dX3_image_26 : decode cX3_image 26 = .ok (.putfield 38, 3) := by decide +kernel
theorem dX3_image_29 : decode cX3_image 29 = .ok (.aload_n 0, 1) := by decide +kernel
theorem dX3_image_30 : decode cX3_image 30 = .ok (.getfield 32, 3) := by decide +kernel
theorem dX3_image_33 : decode cX3_image 33 = .ok (.getfield 124, 3) := by decide +kernel
theorem dX3_image_36 : decode cX3_image 36 = .ok (.ireturn, 1) := by decide +kernel
set_option maxRecDepth 20000 in
theorem ggX3_restore_X0_copyAll : GoodIn wsX3_restore wsX0_copyAll := goodIn_r _ [9, 10, 11, 12, 13, 14, 15, 16, 17, 18, 19, 20, 21, 22, 8, 23, 24, 25, 36, 37, 38, 39, 40, 41, 42, 43, 44, 45, 46] (by decide +kernel) (by decide +kernel)
set_option maxRecDepth 20000 in
theorem gX3_restore_X0_copyAll : GoodIn wsX3_restore (wsV RX3 186 RX0 yX0_copyAll wsX0_copyAll) := goodIn_app (goodIn_of _ (by decide +kernel)) ggX3_restore_X0_copyAll
theorem dX3_restore_0 : decode cX3_restore 0 = .ok (.aload_n 0, 1) := by decide +kernel
theorem dX3_restore_1 : decode cX3_restore 1 = .ok (.getfield 38, 3) := by decide +kernel
theorem dX3_restore_4 : decode cX3_restore 4 = .ok (.ifCond .ne 6, 3) := by decide +kernel
theorem dX3_restore_7 : decode cX3_restore 7 = .ok (.ldc 75, 2) := by decide +kernel
theorem dX3_restore_9 : decode cX3_restore 9 = .ok (.ireturn, 1) := by decide +kernel
theorem dX3_restore_10 : decode cX3_restore 10 = .ok (.aload_n 0, 1) := by decide +kernel
theorem dX3_restore_11 : decode cX3_restore 11 = .ok (.getfield 28, 3) := by decide +kernel
theorem dX3_restore_14 : decode cX3_restore 14 = .ok (.aload_n 0, 1) := by decide +kernel
theorem dX3_restore_15 : decode cX3_restore 15 = .ok (.getfield 32, 3) := by decide +kernel
theorem dX3_restore_18 : decode cX3_restore 18 = .ok (.invokevirtual 186, 3) := by decide +kernel
theorem dX3_restore_21 : decode cX3_restore 21 = .ok (.aload_n 0, 1) := by decide +kernel
theorem dX3_restore_22 : decode cX3_restore 22 = .ok (.getfield 28, 3) := by decide +kernel
theorem dX3_restore_25 : decode cX3_restore 25 = .ok (.getfield 124, 3) := by decide +kernel
theorem dX3_restore_28 : decode cX3_restore 28 = .ok (.ireturn, 1) := by decide +kernel
set_option maxRecDepth 20000 in
theorem ggX3_count_X0_howManyFast : GoodIn wsX3_count wsX0_howManyFast := goodIn_r _ [13, 14, 15, 33, 34, 35, 36, 37, 38, 39, 40, 41, 42, 43, 26, 27, 28, 29, 30] (by decide +kernel) (by decide +kernel)
set_option maxRecDepth 20000 in
theorem gX3_count_X0_howManyFast : GoodIn wsX3_count (wsV RX3 196 RX0 yX0_howManyFast wsX0_howManyFast) := goodIn_app (goodIn_of _ (by decide +kernel)) ggX3_count_X0_howManyFast
theorem dX3_count_0 : decode cX3_count 0 = .ok (.iload_n 1, 1) := by decide +kernel
theorem dX3_count_1 : decode cX3_count 1 = .ok (.tableswitch 111 0 8 #[51, 59, 67, 75, 83, 88, 93, 101, 106], 51) := by decide +kernel
theorem dX3_count_52 : decode cX3_count 52 = .ok (.aload_n 0, 1) := by decide +kernel
theorem dX3_count_53 : decode cX3_count 53 = .ok (.getfield 19, 3) := by decide +kernel
theorem dX3_count_56 : decode cX3_count 56 = .ok (.getfield 83, 3) := by decide +kernel
theorem dX3_count_59 : decode cX3_count 59 = .ok (.ireturn, 1) := by decide +kernel
theorem dX3_count_60 : decode cX3_count 60 = .ok (.aload_n 0, 1) := by decide +kernel
theorem dX3_count_61 : decode cX3_count 61 = .ok (.getfield 19, 3) := by decide +kernel
theorem dX3_count_64 : decode cX3_count 64 = .ok (.getfield 190, 3) := by decide +kernel
theorem dX3_count_67 : decode cX3_count 67 = .ok (.ireturn, 1) := by decide +kernel
theorem dX3_count_68 : decode cX3_count 68 = .ok (.aload_n 0, 1) := by decide +kernel
theorem dX3_count_69 : decode cX3_count 69 = .ok (.getfield 10, 3) := by decide +kernel
theorem dX3_count_72 : decode cX3_count 72 = .ok (.getfield 193, 3) := by decide +kernel
theorem dX3_count_75 : decode cX3_count 75 = .ok (.ireturn, 1) := by decide +kernel
theorem dX3_count_76 : decode cX3_count 76 = .ok (.aload_n 0, 1) := by decide +kernel
theorem dX3_count_77 : decode cX3_count 77 = .ok (.getfield 28, 3) := by decide +kernel
theorem dX3_count_80 : decode cX3_count 80 = .ok (.getfield 124, 3) := by decide +kernel
theorem dX3_count_83 : decode cX3_count 83 = .ok (.ireturn, 1) := by decide +kernel
theorem dX3_count_84 : decode cX3_count 84 = .ok (.aload_n 0, 1) := by decide +kernel
theorem dX3_count_85 : decode cX3_count 85 = .ok (.getfield 42, 3) := by decide +kernel
theorem dX3_count_88 : decode cX3_count 88 = .ok (.ireturn, 1) := by decide +kernel
theorem dX3_count_89 : decode cX3_count 89 = .ok (.aload_n 0, 1) := by decide +kernel
theorem dX3_count_90 : decode cX3_count 90 = .ok (.getfield 46, 3) := by decide +kernel
theorem dX3_count_93 : decode cX3_count 93 = .ok (.ireturn, 1) := by decide +kernel
theorem dX3_count_94 : decode cX3_count 94 = .ok (.aload_n 0, 1) := by decide +kernel
theorem dX3_count_95 : decode cX3_count 95 = .ok (.getfield 28, 3) := by decide +kernel
theorem dX3_count_98 : decode cX3_count 98 = .ok (.invokevirtual 196, 3) := by decide +kernel
theorem dX3_count_101 : decode cX3_count 101 = .ok (.ireturn, 1) := by decide +kernel
theorem dX3_count_102 : decode cX3_count 102 = .ok (.aload_n 0, 1) := by decide +kernel
theorem dX3_count_103 : decode cX3_count 103 = .ok (.getfield 49, 3) := by decide +kernel
theorem dX3_count_106 : decode cX3_count 106 = .ok (.ireturn, 1) := by decide +kernel
theorem dX3_count_107 : decode cX3_count 107 = .ok (.aload_n 0, 1) := by decide +kernel
theorem dX3_count_108 : decode cX3_count 108 = .ok (.getfield 52, 3) := by decide +kernel
theorem dX3_count_111 : decode cX3_count 111 = .ok (.ireturn, 1) := by decide +kernel
theorem dX3_count_112 : decode cX3_count 112 = .ok (.ldc 55, 2) := by decide +kernel
theorem dX3_count_114 : decode cX3_count 114 = .ok (.ireturn, 1) := by decide +kernel
set_option maxRecDepth 20000 in
theorem ggX3_digest_X3_mixNodes : GoodIn wsX3_digest wsX3_mixNodes := goodIn_r _ [8, 2, 9, 10, 11, 7, 12, 13, 14, 15, 16, 17, 18, 19, 20, 21, 22, 23, 24, 25, 26, 27, 28, 29, 30, 31, 32, 33, 34, 35, 36, 37, 38, 39, 40, 41, 42, 43, 44, 45, 46, 47, 48, 49, 50, 51, 52, 53, 54, 55, 56, 57, 58, 59, 60, 61, 62, 63, 64, 65, 66, 67, 68, 69, 70, 71, 72, 73, 74, 75, 76, 77, 78, 79, 80, 81, 82, 83, 84, 85, 86, 87, 209, 210, 211, 212, 213, 214, 215, 216, 217, 218, 221, 222, 223, 224, 225, 226, 227, 228, 229, 230, 231, 232, 233, 234, 235, 236] (by decide +kernel) (by decide +kernel)
set_option maxRecDepth 20000 in
theorem gX3_digest_X3_mixNodes : GoodIn wsX3_digest (wsV RX3 201 RX3 yX3_mixNodes wsX3_mixNodes) := goodIn_app (goodIn_of _ (by decide +kernel)) ggX3_digest_X3_mixNodes
set_option maxRecDepth 20000 in
theorem ggX3_digest_X3_mixLinks : GoodIn wsX3_digest wsX3_mixLinks := goodIn_r _ [91, 2, 92, 93, 94, 20, 95, 96, 97, 18, 19, 21, 22, 51, 7, 52, 98, 99, 100, 101, 102, 103, 104, 105, 13, 14, 16, 106, 107, 54, 55, 26, 56, 57, 28, 58, 108, 109, 110, 111, 112, 113, 42, 114, 45, 24, 25, 27, 84, 85, 86, 87, 209, 210, 211, 212, 213, 214, 215, 216, 217, 218, 221, 222, 223, 224, 225, 226, 227, 228, 229, 230, 231, 232, 233, 234, 235, 236] (by decide +kernel) (by decide +kernel)
set_option maxRecDepth 20000 in
theorem gX3_digest_X3_mixLinks : GoodIn wsX3_digest (wsV RX3 205 RX3 yX3_mixLinks wsX3_mixLinks) := goodIn_app (goodIn_of _ (by decide +kernel)) ggX3_digest_X3_mixLinks
set_option maxRecDepth 20000 in
theorem ggX3_digest_X1_isRead : GoodIn wsX3_digest wsX1_isRead := goodIn_r _ [118, 22, 221, 222, 223, 224, 225] (by decide +kernel) (by decide +kernel)
set_option maxRecDepth 20000 in
theorem gX3_digest_X1_isRead : GoodIn wsX3_digest (wsV RX3 121 RX1 yX1_isRead wsX1_isRead) := goodIn_app (goodIn_of _ (by decide +kernel)) ggX3_digest_X1_isRead
set_option maxRecDepth 20000 in
theorem ggX3_digest_X3_mixSkews : GoodIn wsX3_digest wsX3_mixSkews := goodIn_r _ [122, 123, 124, 125, 7, 126, 16, 2, 127, 14, 15, 115, 116, 117, 20, 118, 22, 128, 129, 130, 26, 131, 132, 133, 134, 135, 38, 39, 40, 41, 42, 43, 136, 137, 138, 139, 96, 140, 51, 52, 141, 109, 110, 111, 112, 113, 114, 45, 24, 25, 27, 28, 142, 143, 144, 145, 146, 71, 72, 73, 74, 75, 84, 85, 86, 87, 147, 148, 149, 150, 151, 152, 153, 154, 155, 156, 157, 158, 159, 160, 161, 162, 163, 164, 165, 166, 167, 57, 58, 168, 169, 170, 171, 172, 173, 174, 175, 176, 177, 178, 179, 180, 181, 182, 183, 34, 35, 36, 37, 33, 44, 46, 47, 48, 49, 50, 53, 54, 55, 56, 67, 68, 69, 70, 80, 81, 82, 83, 184, 185, 186, 187, 188, 189, 190, 209, 210, 211, 212, 213, 214, 215, 216, 217, 218, 226, 227, 228, 229, 230, 231, 232, 233, 234, 235, 236, 221, 222, 223, 224, 225] (by decide +kernel) (by decide +kernel)
set_option maxRecDepth 20000 in
theorem gX3_digest_X3_mixSkews : GoodIn wsX3_digest (wsV RX3 208 RX3 yX3_mixSkews wsX3_mixSkews) := goodIn_app (goodIn_of _ (by decide +kernel)) ggX3_digest_X3_mixSkews
set_option maxRecDepth 20000 in
theorem ggX3_digest_X2_letterAt : GoodIn wsX3_digest wsX2_letterAt := goodIn_r _ [195, 196, 197, 198, 219, 220] (by decide +kernel) (by decide +kernel)
set_option maxRecDepth 20000 in
theorem gX3_digest_X2_letterAt : GoodIn wsX3_digest (wsV RX3 211 RX2 yX2_letterAt wsX2_letterAt) := goodIn_app (goodIn_of _ (by decide +kernel)) ggX3_digest_X2_letterAt
set_option maxRecDepth 20000 in
theorem ggX3_digest_X3_mix : GoodIn wsX3_digest wsX3_mix := goodIn_r _ [86, 87] (by decide +kernel) (by decide +kernel)
set_option maxRecDepth 20000 in
theorem gX3_digest_X3_mix : GoodIn wsX3_digest (va_wsS RX3 214 yX3_mix wsX3_mix) := goodIn_app (goodIn_of _ (by decide +kernel)) ggX3_digest_X3_mix
set_option maxRecDepth 20000 in
theorem ggX3_digest_X3_count : GoodIn wsX3_digest wsX3_count := goodIn_r _ [202, 2, 3, 14, 15, 157, 203, 204, 16, 205, 206, 207, 26, 208, 39, 174, 209, 210, 211, 212, 213, 214, 215, 216, 217, 218, 221, 222, 223, 224, 225, 219, 220, 226, 227, 228, 229, 230, 231, 232, 233, 234, 235, 236] (by decide +kernel) (by decide +kernel)
set_option maxRecDepth 20000 in
theorem gX3_digest_X3_count : GoodIn wsX3_digest (wsV RX3 218 RX3 yX3_count wsX3_count) := goodIn_app (goodIn_of _ (by decide +kernel)) ggX3_digest_X3_count
theorem dX3_digest_0 : decode cX3_digest 0 = .ok (.aload_n 0, 1) := by decide +kernel
theorem dX3_digest_1 : decode cX3_digest 1 = .ok (.ldc2_w 199, 3) := by decide +kernel
theorem dX3_digest_4 : decode cX3_digest 4 = .ok (.invokevirtual 201, 3) := by decide +kernel
theorem dX3_digest_7 : decode cX3_digest 7 = .ok (.lstore_n 1, 1) := by decide +kernel
theorem dX3_digest_8 : decode cX3_digest 8 = .ok (.aload_n 0, 1) := by decide +kernel
theorem dX3_digest_9 : decode cX3_digest 9 = .ok (.lload_n 1, 1) := by decide +kernel
theorem dX3_digest_10 : decode cX3_digest 10 = .ok (.invokevirtual 205, 3) := by decide +kernel
theorem dX3_digest_13 : decode cX3_digest 13 = .ok (.lstore_n 1, 1) := by decide +kernel
theorem dX3_digest_14 : decode cX3_digest 14 = .ok (.aload_n 0, 1) := by decide +kernel
theorem dX3_digest_15 : decode cX3_digest 15 = .ok (.getfield 19, 3) := by decide +kernel
theorem dX3_digest_18 : decode cX3_digest 18 = .ok (.invokevirtual 121, 3) := by decide +kernel
theorem dX3_digest_21 : decode cX3_digest 21 = .ok (.ifCond .eq 9, 3) := by decide +kernel
theorem dX3_digest_24 : decode cX3_digest 24 = .ok (.aload_n 0, 1) := by decide +kernel
theorem dX3_digest_25 : decode cX3_digest 25 = .ok (.lload_n 1, 1) := by decide +kernel
theorem dX3_digest_26 : decode cX3_digest 26 = .ok (.invokevirtual 208, 3) := by decide +kernel
theorem dX3_digest_29 : decode cX3_digest 29 = .ok (.lstore_n 1, 1) := by decide +kernel
theorem dX3_digest_30 : decode cX3_digest 30 = .ok (.iconst 0, 1) := by decide +kernel
theorem dX3_digest_31 : decode cX3_digest 31 = .ok (.istore_n 3, 1) := by decide +kernel
theorem dX3_digest_32 : decode cX3_digest 32 = .ok (.iload_n 3, 1) := by decide +kernel
theorem dX3_digest_33 : decode cX3_digest 33 = .ok (.aload_n 0, 1) := by decide +kernel
theorem dX3_digest_34 : decode cX3_digest 34 = .ok (.getfield 10, 3) := by decide +kernel
theorem dX3_digest_37 : decode cX3_digest 37 = .ok (.getfield 193, 3) := by decide +kernel
theorem dX3_digest_40 : decode cX3_digest 40 = .ok (.if_icmp .ge 22, 3) := by decide +kernel
theorem dX3_digest_43 : decode cX3_digest 43 = .ok (.lload_n 1, 1) := by decide +kernel
theorem dX3_digest_44 : decode cX3_digest 44 = .ok (.aload_n 0, 1) := by decide +kernel
theorem dX3_digest_45 : decode cX3_digest 45 = .ok (.getfield 10, 3) := by decide +kernel
theorem dX3_digest_48 : decode cX3_digest 48 = .ok (.iload_n 3, 1) := by decide +kernel
theorem dX3_digest_49 : decode cX3_digest 49 = .ok (.invokevirtual 211, 3) := by decide +kernel
theorem dX3_digest_52 : decode cX3_digest 52 = .ok (.invokestatic 214, 3) := by decide +kernel
theorem dX3_digest_55 : decode cX3_digest 55 = .ok (.lstore_n 1, 1) := by decide +kernel
theorem dX3_digest_56 : decode cX3_digest 56 = .ok (.iinc 3 1, 3) := by decide +kernel
theorem dX3_digest_59 : decode cX3_digest 59 = .ok (.goto (-27), 3) := by decide +kernel
theorem dX3_digest_62 : decode cX3_digest 62 = .ok (.iconst 0, 1) := by decide +kernel
theorem dX3_digest_63 : decode cX3_digest 63 = .ok (.istore_n 3, 1) := by decide +kernel
theorem dX3_digest_64 : decode cX3_digest 64 = .ok (.iload_n 3, 1) := by decide +kernel
theorem dX3_digest_65 : decode cX3_digest 65 = .ok (.bipush 8, 2) := by decide +kernel
theorem dX3_digest_67 : decode cX3_digest 67 = .ok (.if_icmp .gt 19, 3) := by decide +kernel
theorem dX3_digest_70 : decode cX3_digest 70 = .ok (.lload_n 1, 1) := by decide +kernel
theorem dX3_digest_71 : decode cX3_digest 71 = .ok (.aload_n 0, 1) := by decide +kernel
theorem dX3_digest_72 : decode cX3_digest 72 = .ok (.iload_n 3, 1) := by decide +kernel
theorem dX3_digest_73 : decode cX3_digest 73 = .ok (.invokevirtual 218, 3) := by decide +kernel
theorem dX3_digest_76 : decode cX3_digest 76 = .ok (.invokestatic 214, 3) := by decide +kernel
theorem dX3_digest_79 : decode cX3_digest 79 = .ok (.lstore_n 1, 1) := by decide +kernel
theorem dX3_digest_80 : decode cX3_digest 80 = .ok (.iinc 3 1, 3) := by decide +kernel
theorem dX3_digest_83 : decode cX3_digest 83 = .ok (.goto (-19), 3) := by decide +kernel
theorem dX3_digest_86 : decode cX3_digest 86 = .ok (.lload_n 1, 1) := by decide +kernel
theorem dX3_digest_87 : decode cX3_digest 87 = .ok (.lreturn, 1) := by decide +kernel
set_option maxRecDepth 20000 in
theorem ggX3_mixNodes_X3_node : GoodIn wsX3_mixNodes wsX3_node := goodIn_r _ [6, 1, 7, 8, 9, 10, 11, 12, 13, 14, 15, 16, 17, 18, 19, 20, 21, 22, 23, 24, 25, 26, 27, 28, 29, 30, 31, 32, 33, 34, 35, 36, 37, 38, 39, 40, 41, 42, 43, 44, 45, 5, 46, 47, 48, 49, 50, 51, 52, 53, 54, 55, 56, 57, 58, 59, 60, 61, 62, 63, 64, 65, 66, 67, 68, 69, 70, 71, 72, 73, 74, 75, 76, 77, 82, 83, 84, 85, 86, 87, 88, 89, 90, 91, 97, 98, 99, 100, 101, 102, 103, 104, 105, 106, 107, 92, 93, 94, 95, 96] (by decide +kernel) (by decide +kernel)
set_option maxRecDepth 20000 in
theorem gX3_mixNodes_X3_node : GoodIn wsX3_mixNodes (wsV RX3 221 RX3 yX3_node wsX3_node) := goodIn_app (goodIn_of _ (by decide +kernel)) ggX3_mixNodes_X3_node
set_option maxRecDepth 20000 in
theorem ggX3_mixNodes_X3_mix : GoodIn wsX3_mixNodes wsX3_mix := goodIn_r _ [80, 81] (by decide +kernel) (by decide +kernel)
set_option maxRecDepth 20000 in
theorem gX3_mixNodes_X3_mix : GoodIn wsX3_mixNodes (va_wsS RX3 214 yX3_mix wsX3_mix) := goodIn_app (goodIn_of _ (by decide +kernel)) ggX3_mixNodes_X3_mix
theorem dX3_mixNodes_0 : decode cX3_mixNodes 0 = .ok (.lload_n 1, 1) := by decide +kernel
theorem dX3_mixNodes_1 : decode cX3_mixNodes 1 = .ok (.lstore_n 3, 1) := by decide +kernel
theorem dX3_mixNodes_2 : decode cX3_mixNodes 2 = .ok (.iconst 0, 1) := by decide +kernel
theorem dX3_mixNodes_3 : decode cX3_mixNodes 3 = .ok (.istore 5, 2) := by decide +kernel
theorem dX3_mixNodes_5 : decode cX3_mixNodes 5 = .ok (.iload 5, 2) := by decide +kernel
theorem dX3_mixNodes_7 : decode cX3_mixNodes 7 = .ok (.aload_n 0, 1) := by decide +kernel
theorem dX3_mixNodes_8 : decode cX3_mixNodes 8 = .ok (.getfield 19, 3) := by decide +kernel
theorem dX3_mixNodes_11 : decode cX3_mixNodes 11 = .ok (.getfield 83, 3) := by decide +kernel
theorem dX3_mixNodes_14 : decode cX3_mixNodes 14 = .ok (.if_icmp .ge 38, 3) := by decide +kernel
theorem dX3_mixNodes_17 : decode cX3_mixNodes 17 = .ok (.iconst 0, 1) := by decide +kernel
theorem dX3_mixNodes_18 : decode cX3_mixNodes 18 = .ok (.istore 6, 2) := by decide +kernel
theorem dX3_mixNodes_20 : decode cX3_mixNodes 20 = .ok (.iload 6, 2) := by decide +kernel
theorem dX3_mixNodes_22 : decode cX3_mixNodes 22 = .ok (.bipush 8, 2) := by decide +kernel
theorem dX3_mixNodes_24 : decode cX3_mixNodes 24 = .ok (.if_icmp .gt 22, 3) := by decide +kernel
theorem dX3_mixNodes_27 : decode cX3_mixNodes 27 = .ok (.lload_n 3, 1) := by decide +kernel
theorem dX3_mixNodes_28 : decode cX3_mixNodes 28 = .ok (.aload_n 0, 1) := by decide +kernel
theorem dX3_mixNodes_29 : decode cX3_mixNodes 29 = .ok (.iload 5, 2) := by decide +kernel
theorem dX3_mixNodes_31 : decode cX3_mixNodes 31 = .ok (.iload 6, 2) := by decide +kernel
