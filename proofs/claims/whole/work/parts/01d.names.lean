theorem dX3_mixNodes_33 : decode cX3_mixNodes 33 = .ok (.invokevirtual 221, 3) := by decide +kernel
theorem dX3_mixNodes_36 : decode cX3_mixNodes 36 = .ok (.invokestatic 214, 3) := by decide +kernel
theorem dX3_mixNodes_39 : decode cX3_mixNodes 39 = .ok (.lstore_n 3, 1) := by decide +kernel
theorem dX3_mixNodes_40 : decode cX3_mixNodes 40 = .ok (.iinc 6 1, 3) := by decide +kernel
theorem dX3_mixNodes_43 : decode cX3_mixNodes 43 = .ok (.goto (-23), 3) := by decide +kernel
theorem dX3_mixNodes_46 : decode cX3_mixNodes 46 = .ok (.iinc 5 1, 3) := by decide +kernel
theorem dX3_mixNodes_49 : decode cX3_mixNodes 49 = .ok (.goto (-44), 3) := by decide +kernel
theorem dX3_mixNodes_52 : decode cX3_mixNodes 52 = .ok (.lload_n 3, 1) := by decide +kernel
theorem dX3_mixNodes_53 : decode cX3_mixNodes 53 = .ok (.lreturn, 1) := by decide +kernel
set_option maxRecDepth 20000 in
theorem ggX3_mixLinks_X1_hasLink : GoodIn wsX3_mixLinks wsX1_hasLink := goodIn_r _ [6, 7, 8, 9, 10, 5, 11, 12, 13, 14, 15, 62, 63, 64, 65, 66] (by decide +kernel) (by decide +kernel)
set_option maxRecDepth 20000 in
theorem gX3_mixLinks_X1_hasLink : GoodIn wsX3_mixLinks (wsV RX3 103 RX1 yX1_hasLink wsX1_hasLink) := goodIn_app (goodIn_of _ (by decide +kernel)) ggX3_mixLinks_X1_hasLink
set_option maxRecDepth 20000 in
theorem ggX3_mixLinks_X3_mixLink : GoodIn wsX3_mixLinks wsX3_mixLink := goodIn_r _ [19, 20, 21, 22, 14, 23, 1, 24, 25, 26, 2, 3, 4, 5, 6, 7, 8, 9, 10, 11, 12, 13, 15, 27, 28, 29, 30, 31, 32, 33, 34, 35, 36, 37, 38, 39, 40, 41, 42, 43, 44, 45, 46, 47, 48, 49, 50, 51, 52, 53, 54, 55, 56, 57, 58, 59, 60, 61, 67, 68, 69, 70, 71, 72, 73, 74, 75, 76, 77, 62, 63, 64, 65, 66] (by decide +kernel) (by decide +kernel)
set_option maxRecDepth 20000 in
theorem gX3_mixLinks_X3_mixLink : GoodIn wsX3_mixLinks (wsV RX3 224 RX3 yX3_mixLink wsX3_mixLink) := goodIn_app (goodIn_of _ (by decide +kernel)) ggX3_mixLinks_X3_mixLink
theorem dX3_mixLinks_0 : decode cX3_mixLinks 0 = .ok (.lload_n 1, 1) := by decide +kernel
theorem dX3_mixLinks_1 : decode cX3_mixLinks 1 = .ok (.lstore_n 3, 1) := by decide +kernel
theorem dX3_mixLinks_2 : decode cX3_mixLinks 2 = .ok (.iconst 0, 1) := by decide +kernel
theorem dX3_mixLinks_3 : decode cX3_mixLinks 3 = .ok (.istore 5, 2) := by decide +kernel
theorem dX3_mixLinks_5 : decode cX3_mixLinks 5 = .ok (.iload 5, 2) := by decide +kernel
theorem dX3_mixLinks_7 : decode cX3_mixLinks 7 = .ok (.aload_n 0, 1) := by decide +kernel
theorem dX3_mixLinks_8 : decode cX3_mixLinks 8 = .ok (.getfield 19, 3) := by decide +kernel
theorem dX3_mixLinks_11 : decode cX3_mixLinks 11 = .ok (.getfield 83, 3) := by decide +kernel
theorem dX3_mixLinks_14 : decode cX3_mixLinks 14 = .ok (.if_icmp .ge 65, 3) := by decide +kernel
theorem dX3_mixLinks_17 : decode cX3_mixLinks 17 = .ok (.iload 5, 2) := by decide +kernel
theorem dX3_mixLinks_19 : decode cX3_mixLinks 19 = .ok (.iconst 1, 1) := by decide +kernel
theorem dX3_mixLinks_20 : decode cX3_mixLinks 20 = .ok (.iadd, 1) := by decide +kernel
theorem dX3_mixLinks_21 : decode cX3_mixLinks 21 = .ok (.istore 6, 2) := by decide +kernel
theorem dX3_mixLinks_23 : decode cX3_mixLinks 23 = .ok (.iload 6, 2) := by decide +kernel
theorem dX3_mixLinks_25 : decode cX3_mixLinks 25 = .ok (.aload_n 0, 1) := by decide +kernel
theorem dX3_mixLinks_26 : decode cX3_mixLinks 26 = .ok (.getfield 19, 3) := by decide +kernel
theorem dX3_mixLinks_29 : decode cX3_mixLinks 29 = .ok (.getfield 83, 3) := by decide +kernel
theorem dX3_mixLinks_32 : decode cX3_mixLinks 32 = .ok (.if_icmp .ge 41, 3) := by decide +kernel
theorem dX3_mixLinks_35 : decode cX3_mixLinks 35 = .ok (.aload_n 0, 1) := by decide +kernel
theorem dX3_mixLinks_36 : decode cX3_mixLinks 36 = .ok (.getfield 19, 3) := by decide +kernel
theorem dX3_mixLinks_39 : decode cX3_mixLinks 39 = .ok (.iload 5, 2) := by decide +kernel
theorem dX3_mixLinks_41 : decode cX3_mixLinks 41 = .ok (.iload 6, 2) := by decide +kernel
theorem dX3_mixLinks_43 : decode cX3_mixLinks 43 = .ok (.invokevirtual 103, 3) := by decide +kernel
theorem dX3_mixLinks_46 : decode cX3_mixLinks 46 = .ok (.ifCond .eq 21, 3) := by decide +kernel
theorem dX3_mixLinks_49 : decode cX3_mixLinks 49 = .ok (.aload_n 0, 1) := by decide +kernel
theorem dX3_mixLinks_50 : decode cX3_mixLinks 50 = .ok (.aload_n 0, 1) := by decide +kernel
theorem dX3_mixLinks_51 : decode cX3_mixLinks 51 = .ok (.lload_n 3, 1) := by decide +kernel
theorem dX3_mixLinks_52 : decode cX3_mixLinks 52 = .ok (.iload 5, 2) := by decide +kernel
theorem dX3_mixLinks_54 : decode cX3_mixLinks 54 = .ok (.iload 6, 2) := by decide +kernel
theorem dX3_mixLinks_56 : decode cX3_mixLinks 56 = .ok (.invokevirtual 224, 3) := by decide +kernel
theorem dX3_mixLinks_59 : decode cX3_mixLinks 59 = .ok (.iload 6, 2) := by decide +kernel
theorem dX3_mixLinks_61 : decode cX3_mixLinks 61 = .ok (.iload 5, 2) := by decide +kernel
theorem dX3_mixLinks_63 : decode cX3_mixLinks 63 = .ok (.invokevirtual 224, 3) := by decide +kernel
theorem dX3_mixLinks_66 : decode cX3_mixLinks 66 = .ok (.lstore_n 3, 1) := by decide +kernel
theorem dX3_mixLinks_67 : decode cX3_mixLinks 67 = .ok (.iinc 6 1, 3) := by decide +kernel
theorem dX3_mixLinks_70 : decode cX3_mixLinks 70 = .ok (.goto (-47), 3) := by decide +kernel
theorem dX3_mixLinks_73 : decode cX3_mixLinks 73 = .ok (.iinc 5 1, 3) := by decide +kernel
theorem dX3_mixLinks_76 : decode cX3_mixLinks 76 = .ok (.goto (-71), 3) := by decide +kernel
theorem dX3_mixLinks_79 : decode cX3_mixLinks 79 = .ok (.lload_n 3, 1) := by decide +kernel
theorem dX3_mixLinks_80 : decode cX3_mixLinks 80 = .ok (.lreturn, 1) := by decide +kernel
set_option maxRecDepth 20000 in
theorem ggX3_mixLink_X3_link : GoodIn wsX3_mixLink wsX3_link := goodIn_r _ [5, 6, 7, 8, 9, 10, 11, 12, 13, 14, 15, 16, 17, 18, 19, 20, 21, 4, 22, 23, 24, 25, 26, 27, 28, 29, 30, 31, 32, 33, 34, 35, 36, 37, 38, 39, 40, 41, 42, 43, 48, 49, 50, 51, 52, 53, 54, 55, 56, 57, 58, 59, 60, 61, 62, 63, 64, 65, 66, 67, 68, 69, 70, 71, 72, 73] (by decide +kernel) (by decide +kernel)
set_option maxRecDepth 20000 in
theorem gX3_mixLink_X3_link : GoodIn wsX3_mixLink (wsV RX3 228 RX3 yX3_link wsX3_link) := goodIn_app (goodIn_of _ (by decide +kernel)) ggX3_mixLink_X3_link
set_option maxRecDepth 20000 in
theorem ggX3_mixLink_X3_mix : GoodIn wsX3_mixLink wsX3_mix := goodIn_r _ [46, 47] (by decide +kernel) (by decide +kernel)
set_option maxRecDepth 20000 in
theorem gX3_mixLink_X3_mix : GoodIn wsX3_mixLink (va_wsS RX3 214 yX3_mix wsX3_mix) := goodIn_app (goodIn_of _ (by decide +kernel)) ggX3_mixLink_X3_mix
theorem dX3_mixLink_0 : decode cX3_mixLink 0 = .ok (.lload_n 1, 1) := by decide +kernel
theorem dX3_mixLink_1 : decode cX3_mixLink 1 = .ok (.lstore 5, 2) := by decide +kernel
theorem dX3_mixLink_3 : decode cX3_mixLink 3 = .ok (.iconst 0, 1) := by decide +kernel
theorem dX3_mixLink_4 : decode cX3_mixLink 4 = .ok (.istore 7, 2) := by decide +kernel
theorem dX3_mixLink_6 : decode cX3_mixLink 6 = .ok (.iload 7, 2) := by decide +kernel
theorem dX3_mixLink_8 : decode cX3_mixLink 8 = .ok (.iconst 3, 1) := by decide +kernel
theorem dX3_mixLink_9 : decode cX3_mixLink 9 = .ok (.if_icmp .gt 25, 3) := by decide +kernel
theorem dX3_mixLink_12 : decode cX3_mixLink 12 = .ok (.lload 5, 2) := by decide +kernel
theorem dX3_mixLink_14 : decode cX3_mixLink 14 = .ok (.aload_n 0, 1) := by decide +kernel
theorem dX3_mixLink_15 : decode cX3_mixLink 15 = .ok (.iload_n 3, 1) := by decide +kernel
theorem dX3_mixLink_16 : decode cX3_mixLink 16 = .ok (.iload 4, 2) := by decide +kernel
theorem dX3_mixLink_18 : decode cX3_mixLink 18 = .ok (.iload 7, 2) := by decide +kernel
theorem dX3_mixLink_20 : decode cX3_mixLink 20 = .ok (.invokevirtual 228, 3) := by decide +kernel
theorem dX3_mixLink_23 : decode cX3_mixLink 23 = .ok (.invokestatic 214, 3) := by decide +kernel
theorem dX3_mixLink_26 : decode cX3_mixLink 26 = .ok (.lstore 5, 2) := by decide +kernel
theorem dX3_mixLink_28 : decode cX3_mixLink 28 = .ok (.iinc 7 1, 3) := by decide +kernel
theorem dX3_mixLink_31 : decode cX3_mixLink 31 = .ok (.goto (-25), 3) := by decide +kernel
theorem dX3_mixLink_34 : decode cX3_mixLink 34 = .ok (.lload 5, 2) := by decide +kernel
theorem dX3_mixLink_36 : decode cX3_mixLink 36 = .ok (.lreturn, 1) := by decide +kernel
set_option maxRecDepth 20000 in
theorem ggX3_mixSkews_X3_skew : GoodIn wsX3_mixSkews wsX3_skew := goodIn_r _ [5, 6, 7, 8, 9, 10, 11, 12, 13, 14, 15, 16, 17, 18, 19, 20, 21, 22, 23, 24, 25, 26, 27, 28, 29, 30, 31, 32, 33, 34, 35, 36, 37, 38, 4, 39, 40, 41, 42, 43, 44, 45, 46, 47, 48, 49, 50, 51, 52, 53, 54, 55, 56, 57, 58, 59, 60, 61, 135, 136, 137, 138, 139, 140, 141, 142, 143, 144, 145, 146, 147, 148, 149, 150, 151, 152, 153, 154, 155, 156, 157, 158, 159, 160] (by decide +kernel) (by decide +kernel)
set_option maxRecDepth 20000 in
theorem gX3_mixSkews_X3_skew : GoodIn wsX3_mixSkews (wsV RX3 232 RX3 yX3_skew wsX3_skew) := goodIn_app (goodIn_of _ (by decide +kernel)) ggX3_mixSkews_X3_skew
set_option maxRecDepth 20000 in
theorem ggX3_mixSkews_X3_mix : GoodIn wsX3_mixSkews wsX3_mix := goodIn_r _ [64, 65] (by decide +kernel) (by decide +kernel)
set_option maxRecDepth 20000 in
theorem gX3_mixSkews_X3_mix : GoodIn wsX3_mixSkews (va_wsS RX3 214 yX3_mix wsX3_mix) := goodIn_app (goodIn_of _ (by decide +kernel)) ggX3_mixSkews_X3_mix
set_option maxRecDepth 20000 in
theorem ggX3_mixSkews_X3_spread : GoodIn wsX3_mixSkews wsX3_spread := goodIn_r _ [69, 6, 7, 8, 9, 11, 12, 13, 14, 15, 16, 70, 23, 24, 20, 25, 26, 27, 28, 29, 30, 31, 32, 33, 34, 35, 36, 37, 38, 4, 39, 40, 41, 42, 43, 44, 45, 46, 47, 48, 49, 50, 51, 135, 136, 137, 138, 139, 140, 141, 142, 143, 144, 156, 157, 158, 159, 160, 145, 146, 147, 148, 149, 150, 151, 152, 153, 154, 155] (by decide +kernel) (by decide +kernel)
set_option maxRecDepth 20000 in
theorem gX3_mixSkews_X3_spread : GoodIn wsX3_mixSkews (wsV RX3 235 RX3 yX3_spread wsX3_spread) := goodIn_app (goodIn_of _ (by decide +kernel)) ggX3_mixSkews_X3_spread
set_option maxRecDepth 20000 in
theorem ggX3_mixSkews_X3_searchWorst : GoodIn wsX3_mixSkews wsX3_searchWorst := goodIn_r _ [74, 75, 9, 7, 10, 76, 77, 78, 79, 20, 80, 81, 82, 83, 84, 85, 86, 87, 88, 89, 90, 91, 92, 93, 94, 51, 95, 96, 97, 98, 99, 100, 27, 101, 102, 103, 104, 26, 105, 106, 107, 108, 28, 29, 30, 31, 109, 110, 47, 48, 49, 50, 111, 112, 113, 14, 114, 115, 38, 4, 39, 116, 117, 118, 119, 120, 121, 122, 123, 57, 58, 59, 60, 61, 124, 125, 126, 127, 17, 18, 19, 21, 22, 23, 24, 25, 32, 33, 34, 35, 36, 37, 40, 41, 42, 43, 44, 45, 46, 135, 136, 137, 138, 139, 140, 141, 142, 143, 144, 156, 157, 158, 159, 160, 145, 146, 147, 148, 149, 150, 151, 152, 153, 154, 155] (by decide +kernel) (by decide +kernel)
set_option maxRecDepth 20000 in
theorem gX3_mixSkews_X3_searchWorst : GoodIn wsX3_mixSkews (wsV RX3 175 RX3 yX3_searchWorst wsX3_searchWorst) := goodIn_app (goodIn_of _ (by decide +kernel)) ggX3_mixSkews_X3_searchWorst
set_option maxRecDepth 20000 in
theorem ggX3_mixSkews_X3_skewOfWorst : GoodIn wsX3_mixSkews wsX3_skewOfWorst := goodIn_r _ [130] (by decide +kernel) (by decide +kernel)
set_option maxRecDepth 20000 in
theorem gX3_mixSkews_X3_skewOfWorst : GoodIn wsX3_mixSkews (va_wsS RX3 179 yX3_skewOfWorst wsX3_skewOfWorst) := goodIn_app (goodIn_of _ (by decide +kernel)) ggX3_mixSkews_X3_skewOfWorst
set_option maxRecDepth 20000 in
theorem ggX3_mixSkews_X3_nodesOfWorst : GoodIn wsX3_mixSkews wsX3_nodesOfWorst := goodIn_r _ [133, 134] (by decide +kernel) (by decide +kernel)
set_option maxRecDepth 20000 in
theorem gX3_mixSkews_X3_nodesOfWorst : GoodIn wsX3_mixSkews (va_wsS RX3 183 yX3_nodesOfWorst wsX3_nodesOfWorst) := goodIn_app (goodIn_of _ (by decide +kernel)) ggX3_mixSkews_X3_nodesOfWorst
theorem dX3_mixSkews_0 : decode cX3_mixSkews 0 = .ok (.lload_n 1, 1) := by decide +kernel
theorem dX3_mixSkews_1 : decode cX3_mixSkews 1 = .ok (.lstore_n 3, 1) := by decide +kernel
theorem dX3_mixSkews_2 : decode cX3_mixSkews 2 = .ok (.iconst 0, 1) := by decide +kernel
theorem dX3_mixSkews_3 : decode cX3_mixSkews 3 = .ok (.istore 5, 2) := by decide +kernel
theorem dX3_mixSkews_5 : decode cX3_mixSkews 5 = .ok (.iload 5, 2) := by decide +kernel
theorem dX3_mixSkews_7 : decode cX3_mixSkews 7 = .ok (.iconst 3, 1) := by decide +kernel
theorem dX3_mixSkews_8 : decode cX3_mixSkews 8 = .ok (.if_icmp .gt 20, 3) := by decide +kernel
theorem dX3_mixSkews_11 : decode cX3_mixSkews 11 = .ok (.lload_n 3, 1) := by decide +kernel
theorem dX3_mixSkews_12 : decode cX3_mixSkews 12 = .ok (.aload_n 0, 1) := by decide +kernel
theorem dX3_mixSkews_13 : decode cX3_mixSkews 13 = .ok (.iload 5, 2) := by decide +kernel
theorem dX3_mixSkews_15 : decode cX3_mixSkews 15 = .ok (.invokevirtual 232, 3) := by decide +kernel
theorem dX3_mixSkews_18 : decode cX3_mixSkews 18 = .ok (.invokestatic 214, 3) := by decide +kernel
theorem dX3_mixSkews_21 : decode cX3_mixSkews 21 = .ok (.lstore_n 3, 1) := by decide +kernel
theorem dX3_mixSkews_22 : decode cX3_mixSkews 22 = .ok (.iinc 5 1, 3) := by decide +kernel
theorem dX3_mixSkews_25 : decode cX3_mixSkews 25 = .ok (.goto (-20), 3) := by decide +kernel
theorem dX3_mixSkews_28 : decode cX3_mixSkews 28 = .ok (.iconst 1, 1) := by decide +kernel
theorem dX3_mixSkews_29 : decode cX3_mixSkews 29 = .ok (.istore 5, 2) := by decide +kernel
theorem dX3_mixSkews_31 : decode cX3_mixSkews 31 = .ok (.iload 5, 2) := by decide +kernel
theorem dX3_mixSkews_33 : decode cX3_mixSkews 33 = .ok (.bipush 6, 2) := by decide +kernel
theorem dX3_mixSkews_35 : decode cX3_mixSkews 35 = .ok (.if_icmp .ge 20, 3) := by decide +kernel
theorem dX3_mixSkews_38 : decode cX3_mixSkews 38 = .ok (.lload_n 3, 1) := by decide +kernel
theorem dX3_mixSkews_39 : decode cX3_mixSkews 39 = .ok (.aload_n 0, 1) := by decide +kernel
theorem dX3_mixSkews_40 : decode cX3_mixSkews 40 = .ok (.iload 5, 2) := by decide +kernel
theorem dX3_mixSkews_42 : decode cX3_mixSkews 42 = .ok (.invokevirtual 235, 3) := by decide +kernel
theorem dX3_mixSkews_45 : decode cX3_mixSkews 45 = .ok (.invokestatic 214, 3) := by decide +kernel
theorem dX3_mixSkews_48 : decode cX3_mixSkews 48 = .ok (.lstore_n 3, 1) := by decide +kernel
theorem dX3_mixSkews_49 : decode cX3_mixSkews 49 = .ok (.iinc 5 1, 3) := by decide +kernel
theorem dX3_mixSkews_52 : decode cX3_mixSkews 52 = .ok (.goto (-21), 3) := by decide +kernel
theorem dX3_mixSkews_55 : decode cX3_mixSkews 55 = .ok (.aload_n 0, 1) := by decide +kernel
theorem dX3_mixSkews_56 : decode cX3_mixSkews 56 = .ok (.iconst 3, 1) := by decide +kernel
theorem dX3_mixSkews_57 : decode cX3_mixSkews 57 = .ok (.invokevirtual 175, 3) := by decide +kernel
theorem dX3_mixSkews_60 : decode cX3_mixSkews 60 = .ok (.lstore 5, 2) := by decide +kernel
theorem dX3_mixSkews_62 : decode cX3_mixSkews 62 = .ok (.lload_n 3, 1) := by decide +kernel
theorem dX3_mixSkews_63 : decode cX3_mixSkews 63 = .ok (.lload 5, 2) := by decide +kernel
theorem dX3_mixSkews_65 : decode cX3_mixSkews 65 = .ok (.invokestatic 179, 3) := by decide +kernel
theorem dX3_mixSkews_68 : decode cX3_mixSkews 68 = .ok (.invokestatic 214, 3) := by decide +kernel
theorem dX3_mixSkews_71 : decode cX3_mixSkews 71 = .ok (.lstore_n 3, 1) := by decide +kernel
theorem dX3_mixSkews_72 : decode cX3_mixSkews 72 = .ok (.lload_n 3, 1) := by decide +kernel
theorem dX3_mixSkews_73 : decode cX3_mixSkews 73 = .ok (.lload 5, 2) := by decide +kernel
theorem dX3_mixSkews_75 : decode cX3_mixSkews 75 = .ok (.invokestatic 183, 3) := by decide +kernel
theorem dX3_mixSkews_78 : decode cX3_mixSkews 78 = .ok (.invokestatic 214, 3) := by decide +kernel
theorem dX3_mixSkews_81 : decode cX3_mixSkews 81 = .ok (.lreturn, 1) := by decide +kernel
theorem dX3_mix_0 : decode cX3_mix 0 = .ok (.ldc2_w 238, 3) := by decide +kernel
theorem dX3_mix_3 : decode cX3_mix 3 = .ok (.lload_n 0, 1) := by decide +kernel
theorem dX3_mix_4 : decode cX3_mix 4 = .ok (.lmul, 1) := by decide +kernel
theorem dX3_mix_5 : decode cX3_mix 5 = .ok (.iload_n 2, 1) := by decide +kernel
theorem dX3_mix_6 : decode cX3_mix 6 = .ok (.i2l, 1) := by decide +kernel
theorem dX3_mix_7 : decode cX3_mix 7 = .ok (.ladd, 1) := by decide +kernel
theorem dX3_mix_8 : decode cX3_mix 8 = .ok (.lreturn, 1) := by decide +kernel
set_option maxRecDepth 20000 in
theorem ggX3_searchWorst_X0_copyAll : GoodIn wsX3_searchWorst wsX0_copyAll := goodIn_r _ [10, 11, 12, 13, 14, 15, 16, 17, 18, 19, 20, 21, 22, 23, 9, 24, 25, 26, 114, 115, 116, 117, 118, 119, 120, 121, 122, 123, 124] (by decide +kernel) (by decide +kernel)
set_option maxRecDepth 20000 in
theorem gX3_searchWorst_X0_copyAll : GoodIn wsX3_searchWorst (wsV RX3 186 RX0 yX0_copyAll wsX0_copyAll) := goodIn_app (goodIn_of _ (by decide +kernel)) ggX3_searchWorst_X0_copyAll
set_option maxRecDepth 20000 in
theorem ggX3_searchWorst_X0_copyMotion : GoodIn wsX3_searchWorst wsX0_copyMotion := goodIn_r _ [24, 25, 12, 13, 14, 15, 26, 114, 115, 116, 117, 118, 119, 120, 121, 122, 123, 124] (by decide +kernel) (by decide +kernel)
set_option maxRecDepth 20000 in
theorem gX3_searchWorst_X0_copyMotion : GoodIn wsX3_searchWorst (wsV RX3 240 RX0 yX0_copyMotion wsX0_copyMotion) := goodIn_app (goodIn_of _ (by decide +kernel)) ggX3_searchWorst_X0_copyMotion
set_option maxRecDepth 20000 in
theorem ggX3_searchWorst_X0_tellRates : GoodIn wsX3_searchWorst wsX0_tellRates := goodIn_r _ [31, 32, 11, 114, 115, 116, 117, 118, 119, 120, 121, 122, 123, 124, 109, 110, 111, 112, 113] (by decide +kernel) (by decide +kernel)
set_option maxRecDepth 20000 in
theorem gX3_searchWorst_X0_tellRates : GoodIn wsX3_searchWorst (wsV RX3 243 RX0 yX0_tellRates wsX0_tellRates) := goodIn_app (goodIn_of _ (by decide +kernel)) ggX3_searchWorst_X0_tellRates
set_option maxRecDepth 20000 in
theorem ggX3_searchWorst_X0_move : GoodIn wsX3_searchWorst wsX0_move := goodIn_r _ [36, 32, 37, 26, 25, 12, 13, 14, 15, 11, 38, 39, 40, 9, 41, 42, 43, 44, 45, 46, 47, 48, 49, 50, 51, 52, 53, 54, 55, 56, 57, 58, 59, 60, 61, 62, 63, 64, 17, 18, 65, 66, 67, 68, 69, 70, 71, 72, 73, 74, 75, 76, 77, 114, 115, 116, 117, 118, 119, 120, 121, 122, 123, 124, 109, 110, 111, 112, 113] (by decide +kernel) (by decide +kernel)
set_option maxRecDepth 20000 in
theorem gX3_searchWorst_X0_move : GoodIn wsX3_searchWorst (wsV RX3 247 RX0 yX0_move wsX0_move) := goodIn_app (goodIn_of _ (by decide +kernel)) ggX3_searchWorst_X0_move
set_option maxRecDepth 20000 in
theorem ggX3_searchWorst_X0_localSkew : GoodIn wsX3_searchWorst wsX0_localSkew := goodIn_r _ [81, 82, 83, 84, 9, 85, 37, 32, 42, 43, 44, 45, 86, 87, 88, 55, 89, 90, 91, 58, 59, 60, 92, 93, 94, 95, 96, 97, 98, 48, 49, 50, 51, 25, 114, 115, 116, 117, 118, 119, 120, 121, 122, 123, 124, 109, 110, 111, 112, 113] (by decide +kernel) (by decide +kernel)
set_option maxRecDepth 20000 in
theorem gX3_searchWorst_X0_localSkew : GoodIn wsX3_searchWorst (wsV RX3 130 RX0 yX0_localSkew wsX0_localSkew) := goodIn_app (goodIn_of _ (by decide +kernel)) ggX3_searchWorst_X0_localSkew
theorem dX3_searchWorst_0 : decode cX3_searchWorst 0 = .ok (.iconst (-1), 1) := by decide +kernel
theorem dX3_searchWorst_1 : decode cX3_searchWorst 1 = .ok (.istore_n 2, 1) := by decide +kernel
theorem dX3_searchWorst_2 : decode cX3_searchWorst 2 = .ok (.iconst 0, 1) := by decide +kernel
theorem dX3_searchWorst_3 : decode cX3_searchWorst 3 = .ok (.istore_n 3, 1) := by decide +kernel
theorem dX3_searchWorst_4 : decode cX3_searchWorst 4 = .ok (.aload_n 0, 1) := by decide +kernel
theorem dX3_searchWorst_5 : decode cX3_searchWorst 5 = .ok (.getfield 35, 3) := by decide +kernel
theorem dX3_searchWorst_8 : decode cX3_searchWorst 8 = .ok (.aload_n 0, 1) := by decide +kernel
theorem dX3_searchWorst_9 : decode cX3_searchWorst 9 = .ok (.getfield 28, 3) := by decide +kernel
theorem dX3_searchWorst_12 : decode cX3_searchWorst 12 = .ok (.invokevirtual 186, 3) := by decide +kernel
theorem dX3_searchWorst_15 : decode cX3_searchWorst 15 = .ok (.iconst 0, 1) := by decide +kernel
theorem dX3_searchWorst_16 : decode cX3_searchWorst 16 = .ok (.istore 4, 2) := by decide +kernel
theorem dX3_searchWorst_18 : decode cX3_searchWorst 18 = .ok (.iload 4, 2) := by decide +kernel
theorem dX3_searchWorst_20 : decode cX3_searchWorst 20 = .ok (.iconst 1, 1) := by decide +kernel
theorem dX3_searchWorst_21 : decode cX3_searchWorst 21 = .ok (.aload_n 0, 1) := by decide +kernel
theorem dX3_searchWorst_22 : decode cX3_searchWorst 22 = .ok (.getfield 19, 3) := by decide +kernel
theorem dX3_searchWorst_25 : decode cX3_searchWorst 25 = .ok (.getfield 83, 3) := by decide +kernel
theorem dX3_searchWorst_28 : decode cX3_searchWorst 28 = .ok (.ishl, 1) := by decide +kernel
theorem dX3_searchWorst_29 : decode cX3_searchWorst 29 = .ok (.if_icmp .ge 80, 3) := by decide +kernel
theorem dX3_searchWorst_32 : decode cX3_searchWorst 32 = .ok (.aload_n 0, 1) := by decide +kernel
theorem dX3_searchWorst_33 : decode cX3_searchWorst 33 = .ok (.getfield 35, 3) := by decide +kernel
theorem dX3_searchWorst_36 : decode cX3_searchWorst 36 = .ok (.aload_n 0, 1) := by decide +kernel
theorem dX3_searchWorst_37 : decode cX3_searchWorst 37 = .ok (.getfield 28, 3) := by decide +kernel
theorem dX3_searchWorst_40 : decode cX3_searchWorst 40 = .ok (.invokevirtual 240, 3) := by decide +kernel
theorem dX3_searchWorst_43 : decode cX3_searchWorst 43 = .ok (.aload_n 0, 1) := by decide +kernel
theorem dX3_searchWorst_44 : decode cX3_searchWorst 44 = .ok (.getfield 35, 3) := by decide +kernel
theorem dX3_searchWorst_47 : decode cX3_searchWorst 47 = .ok (.iload 4, 2) := by decide +kernel
theorem dX3_searchWorst_49 : decode cX3_searchWorst 49 = .ok (.invokevirtual 243, 3) := by decide +kernel
theorem dX3_searchWorst_52 : decode cX3_searchWorst 52 = .ok (.iconst 0, 1) := by decide +kernel
theorem dX3_searchWorst_53 : decode cX3_searchWorst 53 = .ok (.istore 5, 2) := by decide +kernel
theorem dX3_searchWorst_55 : decode cX3_searchWorst 55 = .ok (.iload 5, 2) := by decide +kernel
theorem dX3_searchWorst_57 : decode cX3_searchWorst 57 = .ok (.iload_n 1, 1) := by decide +kernel
theorem dX3_searchWorst_58 : decode cX3_searchWorst 58 = .ok (.if_icmp .ge 24, 3) := by decide +kernel
theorem dX3_searchWorst_61 : decode cX3_searchWorst 61 = .ok (.aload_n 0, 1) := by decide +kernel
theorem dX3_searchWorst_62 : decode cX3_searchWorst 62 = .ok (.getfield 35, 3) := by decide +kernel
theorem dX3_searchWorst_65 : decode cX3_searchWorst 65 = .ok (.aload_n 0, 1) := by decide +kernel
theorem dX3_searchWorst_66 : decode cX3_searchWorst 66 = .ok (.getfield 42, 3) := by decide +kernel
theorem dX3_searchWorst_69 : decode cX3_searchWorst 69 = .ok (.aload_n 0, 1) := by decide +kernel
theorem dX3_searchWorst_70 : decode cX3_searchWorst 70 = .ok (.getfield 46, 3) := by decide +kernel
theorem dX3_searchWorst_73 : decode cX3_searchWorst 73 = .ok (.invokevirtual 247, 3) := by decide +kernel
theorem dX3_searchWorst_76 : decode cX3_searchWorst 76 = .ok (.iinc 5 1, 3) := by decide +kernel
theorem dX3_searchWorst_79 : decode cX3_searchWorst 79 = .ok (.goto (-24), 3) := by decide +kernel
theorem dX3_searchWorst_82 : decode cX3_searchWorst 82 = .ok (.aload_n 0, 1) := by decide +kernel
theorem dX3_searchWorst_83 : decode cX3_searchWorst 83 = .ok (.getfield 35, 3) := by decide +kernel
theorem dX3_searchWorst_86 : decode cX3_searchWorst 86 = .ok (.invokevirtual 130, 3) := by decide +kernel
theorem dX3_searchWorst_89 : decode cX3_searchWorst 89 = .ok (.istore 5, 2) := by decide +kernel
theorem dX3_searchWorst_91 : decode cX3_searchWorst 91 = .ok (.iload 5, 2) := by decide +kernel
theorem dX3_searchWorst_93 : decode cX3_searchWorst 93 = .ok (.iload_n 2, 1) := by decide +kernel
theorem dX3_searchWorst_94 : decode cX3_searchWorst 94 = .ok (.if_icmp .le 9, 3) := by decide +kernel
theorem dX3_searchWorst_97 : decode cX3_searchWorst 97 = .ok (.iload 5, 2) := by decide +kernel
theorem dX3_searchWorst_99 : decode cX3_searchWorst 99 = .ok (.istore_n 2, 1) := by decide +kernel
theorem dX3_searchWorst_100 : decode cX3_searchWorst 100 = .ok (.iload 4, 2) := by decide +kernel
theorem dX3_searchWorst_102 : decode cX3_searchWorst 102 = .ok (.istore_n 3, 1) := by decide +kernel
theorem dX3_searchWorst_103 : decode cX3_searchWorst 103 = .ok (.iinc 4 1, 3) := by decide +kernel
theorem dX3_searchWorst_106 : decode cX3_searchWorst 106 = .ok (.goto (-88), 3) := by decide +kernel
theorem dX3_searchWorst_109 : decode cX3_searchWorst 109 = .ok (.iload_n 2, 1) := by decide +kernel
theorem dX3_searchWorst_110 : decode cX3_searchWorst 110 = .ok (.i2l, 1) := by decide +kernel
theorem dX3_searchWorst_111 : decode cX3_searchWorst 111 = .ok (.bipush 6, 2) := by decide +kernel
theorem dX3_searchWorst_113 : decode cX3_searchWorst 113 = .ok (.lshl, 1) := by decide +kernel
theorem dX3_searchWorst_114 : decode cX3_searchWorst 114 = .ok (.iload_n 3, 1) := by decide +kernel
theorem dX3_searchWorst_115 : decode cX3_searchWorst 115 = .ok (.i2l, 1) := by decide +kernel
theorem dX3_searchWorst_116 : decode cX3_searchWorst 116 = .ok (.lor, 1) := by decide +kernel
theorem dX3_searchWorst_117 : decode cX3_searchWorst 117 = .ok (.lreturn, 1) := by decide +kernel
theorem dX3_skewOfWorst_0 : decode cX3_skewOfWorst 0 = .ok (.lload_n 0, 1) := by decide +kernel
theorem dX3_skewOfWorst_1 : decode cX3_skewOfWorst 1 = .ok (.bipush 6, 2) := by decide +kernel
theorem dX3_skewOfWorst_3 : decode cX3_skewOfWorst 3 = .ok (.lshr, 1) := by decide +kernel
theorem dX3_skewOfWorst_4 : decode cX3_skewOfWorst 4 = .ok (.l2i, 1) := by decide +kernel
theorem dX3_skewOfWorst_5 : decode cX3_skewOfWorst 5 = .ok (.ireturn, 1) := by decide +kernel
theorem dX3_nodesOfWorst_0 : decode cX3_nodesOfWorst 0 = .ok (.lload_n 0, 1) := by decide +kernel
theorem dX3_nodesOfWorst_1 : decode cX3_nodesOfWorst 1 = .ok (.ldc2_w 250, 3) := by decide +kernel
theorem dX3_nodesOfWorst_4 : decode cX3_nodesOfWorst 4 = .ok (.land, 1) := by decide +kernel
theorem dX3_nodesOfWorst_5 : decode cX3_nodesOfWorst 5 = .ok (.l2i, 1) := by decide +kernel
theorem dX3_nodesOfWorst_6 : decode cX3_nodesOfWorst 6 = .ok (.ireturn, 1) := by decide +kernel
theorem dX3_cell_0 : decode cX3_cell 0 = .ok (.iload_n 0, 1) := by decide +kernel
theorem dX3_cell_1 : decode cX3_cell 1 = .ok (.bipush 6, 2) := by decide +kernel
theorem dX3_cell_3 : decode cX3_cell 3 = .ok (.imul, 1) := by decide +kernel
theorem dX3_cell_4 : decode cX3_cell 4 = .ok (.iload_n 1, 1) := by decide +kernel
theorem dX3_cell_5 : decode cX3_cell 5 = .ok (.iadd, 1) := by decide +kernel
theorem dX3_cell_6 : decode cX3_cell 6 = .ok (.ireturn, 1) := by decide +kernel
set_option maxRecDepth 20000 in
theorem ggX3_levelReaching_X3_dividedUp : GoodIn wsX3_levelReaching wsX3_dividedUp := goodIn_r _ [4] (by decide +kernel) (by decide +kernel)
set_option maxRecDepth 20000 in
theorem gX3_levelReaching_X3_dividedUp : GoodIn wsX3_levelReaching (va_wsS RX3 252 yX3_dividedUp wsX3_dividedUp) := goodIn_app (goodIn_of _ (by decide +kernel)) ggX3_levelReaching_X3_dividedUp
theorem dX3_levelReaching_0 : decode cX3_levelReaching 0 = .ok (.iload_n 0, 1) := by decide +kernel
theorem dX3_levelReaching_1 : decode cX3_levelReaching 1 = .ok (.iload_n 1, 1) := by decide +kernel
theorem dX3_levelReaching_2 : decode cX3_levelReaching 2 = .ok (.if_icmp .gt 7, 3) := by decide +kernel
theorem dX3_levelReaching_5 : decode cX3_levelReaching 5 = .ok (.iconst 0, 1) := by decide +kernel
theorem dX3_levelReaching_6 : decode cX3_levelReaching 6 = .ok (.goto 12, 3) := by decide +kernel
theorem dX3_levelReaching_9 : decode cX3_levelReaching 9 = .ok (.iload_n 0, 1) := by decide +kernel
theorem dX3_levelReaching_10 : decode cX3_levelReaching 10 = .ok (.iload_n 1, 1) := by decide +kernel
theorem dX3_levelReaching_11 : decode cX3_levelReaching 11 = .ok (.isub, 1) := by decide +kernel
theorem dX3_levelReaching_12 : decode cX3_levelReaching 12 = .ok (.iconst 2, 1) := by decide +kernel
theorem dX3_levelReaching_13 : decode cX3_levelReaching 13 = .ok (.iload_n 1, 1) := by decide +kernel
theorem dX3_levelReaching_14 : decode cX3_levelReaching 14 = .ok (.imul, 1) := by decide +kernel
theorem dX3_levelReaching_15 : decode cX3_levelReaching 15 = .ok (.invokestatic 252, 3) := by decide +kernel
theorem dX3_levelReaching_18 : decode cX3_levelReaching 18 = .ok (.ireturn, 1) := by decide +kernel
theorem dX3_dividedUp_0 : decode cX3_dividedUp 0 = .ok (.iload_n 1, 1) := by decide +kernel
theorem dX3_dividedUp_1 : decode cX3_dividedUp 1 = .ok (.iconst 1, 1) := by decide +kernel
theorem dX3_dividedUp_2 : decode cX3_dividedUp 2 = .ok (.if_icmp .ge 7, 3) := by decide +kernel
theorem dX3_dividedUp_5 : decode cX3_dividedUp 5 = .ok (.iconst 0, 1) := by decide +kernel
theorem dX3_dividedUp_6 : decode cX3_dividedUp 6 = .ok (.goto 10, 3) := by decide +kernel
theorem dX3_dividedUp_9 : decode cX3_dividedUp 9 = .ok (.iload_n 0, 1) := by decide +kernel
theorem dX3_dividedUp_10 : decode cX3_dividedUp 10 = .ok (.iload_n 1, 1) := by decide +kernel
theorem dX3_dividedUp_11 : decode cX3_dividedUp 11 = .ok (.iadd, 1) := by decide +kernel
theorem dX3_dividedUp_12 : decode cX3_dividedUp 12 = .ok (.iconst 1, 1) := by decide +kernel
theorem dX3_dividedUp_13 : decode cX3_dividedUp 13 = .ok (.isub, 1) := by decide +kernel
theorem dX3_dividedUp_14 : decode cX3_dividedUp 14 = .ok (.iload_n 1, 1) := by decide +kernel
theorem dX3_dividedUp_15 : decode cX3_dividedUp 15 = .ok (.idiv, 1) := by decide +kernel
theorem dX3_dividedUp_16 : decode cX3_dividedUp 16 = .ok (.ireturn, 1) := by decide +kernel
theorem dX4_init_0 : decode cX4_init 0 = .ok (.aload_n 0, 1) := by decide +kernel
theorem dX4_init_1 : decode cX4_init 1 = .ok (.invokespecial 1, 3) := by decide +kernel
theorem dX4_init_4 : decode cX4_init 4 = .ok (.aload_n 0, 1) := by decide +kernel
theorem dX4_init_5 : decode cX4_init 5 = .ok (.bipush 61, 2) := by decide +kernel
theorem dX4_init_7 : decode cX4_init 7 = .ok (.newarray .int, 2) := by decide +kernel
theorem dX4_init_9 : decode cX4_init 9 = .ok (.putfield 7, 3) := by decide +kernel
theorem dX4_init_12 : decode cX4_init 12 = .ok (.aload_n 0, 1) := by decide +kernel
theorem dX4_init_13 : decode cX4_init 13 = .ok (.bipush 36, 2) := by decide +kernel
theorem dX4_init_15 : decode cX4_init 15 = .ok (.newarray .int, 2) := by decide +kernel
theorem dX4_init_17 : decode cX4_init 17 = .ok (.putfield 13, 3) := by decide +kernel
theorem dX4_init_20 : decode cX4_init 20 = .ok (.aload_n 0, 1) := by decide +kernel
theorem dX4_init_21 : decode cX4_init 21 = .ok (.bipush 36, 2) := by decide +kernel
theorem dX4_init_23 : decode cX4_init 23 = .ok (.newarray .int, 2) := by decide +kernel
theorem dX4_init_25 : decode cX4_init 25 = .ok (.putfield 16, 3) := by decide +kernel
theorem dX4_init_28 : decode cX4_init 28 = .ok (.aload_n 0, 1) := by decide +kernel
theorem dX4_init_29 : decode cX4_init 29 = .ok (.bipush 6, 2) := by decide +kernel
theorem dX4_init_31 : decode cX4_init 31 = .ok (.newarray .int, 2) := by decide +kernel
theorem dX4_init_33 : decode cX4_init 33 = .ok (.putfield 19, 3) := by decide +kernel
theorem dX4_init_36 : decode cX4_init 36 = .ok (.aload_n 0, 1) := by decide +kernel
theorem dX4_init_37 : decode cX4_init 37 = .ok (.bipush 24, 2) := by decide +kernel
theorem dX4_init_39 : decode cX4_init 39 = .ok (.newarray .int, 2) := by decide +kernel
theorem dX4_init_41 : decode cX4_init 41 = .ok (.putfield 22, 3) := by decide +kernel
theorem dX4_init_44 : decode cX4_init 44 = .ok (.aload_n 0, 1) := by decide +kernel
theorem dX4_init_45 : decode cX4_init 45 = .ok (.bipush 6, 2) := by decide +kernel
theorem dX4_init_47 : decode cX4_init 47 = .ok (.newarray .boolean, 2) := by decide +kernel
theorem dX4_init_49 : decode cX4_init 49 = .ok (.putfield 25, 3) := by decide +kernel
theorem dX4_init_52 : decode cX4_init 52 = .ok (.aload_n 0, 1) := by decide +kernel
theorem dX4_init_53 : decode cX4_init 53 = .ok (.bipush 6, 2) := by decide +kernel
theorem dX4_init_55 : decode cX4_init 55 = .ok (.newarray .int, 2) := by decide +kernel
theorem dX4_init_57 : decode cX4_init 57 = .ok (.putfield 29, 3) := by decide +kernel
theorem dX4_init_60 : decode cX4_init 60 = .ok (.aload_n 0, 1) := by decide +kernel
theorem dX4_init_61 : decode cX4_init 61 = .ok (.bipush 20, 2) := by decide +kernel
theorem dX4_init_63 : decode cX4_init 63 = .ok (.putfield 32, 3) := by decide +kernel
theorem dX4_init_66 : decode cX4_init 66 = .ok (.aload_n 0, 1) := by decide +kernel
theorem dX4_init_67 : decode cX4_init 67 = .ok (.bipush 10, 2) := by decide +kernel
theorem dX4_init_69 : decode cX4_init 69 = .ok (.putfield 36, 3) := by decide +kernel
theorem dX4_init_72 : decode cX4_init 72 = .ok (.aload_n 0, 1) := by decide +kernel
theorem dX4_init_73 : decode cX4_init 73 = .ok (.bipush 36, 2) := by decide +kernel
theorem dX4_init_75 : decode cX4_init 75 = .ok (.newarray .int, 2) := by decide +kernel
theorem dX4_init_77 : decode cX4_init 77 = .ok (.putfield 39, 3) := by decide +kernel
theorem dX4_init_80 : decode cX4_init 80 = .ok (.aload_n 0, 1) := by decide +kernel
theorem dX4_init_81 : decode cX4_init 81 = .ok (.bipush 6, 2) := by decide +kernel
theorem dX4_init_83 : decode cX4_init 83 = .ok (.newarray .int, 2) := by decide +kernel
theorem dX4_init_85 : decode cX4_init 85 = .ok (.putfield 42, 3) := by decide +kernel
theorem dX4_init_88 : decode cX4_init 88 = .ok (.aload_n 0, 1) := by decide +kernel
theorem dX4_init_89 : decode cX4_init 89 = .ok (.bipush 24, 2) := by decide +kernel
theorem dX4_init_91 : decode cX4_init 91 = .ok (.newarray .int, 2) := by decide +kernel
theorem dX4_init_93 : decode cX4_init 93 = .ok (.putfield 45, 3) := by decide +kernel
theorem dX4_init_96 : decode cX4_init 96 = .ok (.aload_n 0, 1) := by decide +kernel
theorem dX4_init_97 : decode cX4_init 97 = .ok (.bipush 6, 2) := by decide +kernel
theorem dX4_init_99 : decode cX4_init 99 = .ok (.newarray .int, 2) := by decide +kernel
theorem dX4_init_101 : decode cX4_init 101 = .ok (.putfield 48, 3) := by decide +kernel
theorem dX4_init_104 : decode cX4_init 104 = .ok (.aload_n 0, 1) := by decide +kernel
theorem dX4_init_105 : decode cX4_init 105 = .ok (.bipush 6, 2) := by decide +kernel
theorem dX4_init_107 : decode cX4_init 107 = .ok (.newarray .boolean, 2) := by decide +kernel
theorem dX4_init_109 : decode cX4_init 109 = .ok (.putfield 51, 3) := by decide +kernel
theorem dX4_init_112 : decode cX4_init 112 = .ok (.aload_n 0, 1) := by decide +kernel
theorem dX4_init_113 : decode cX4_init 113 = .ok (.bipush 6, 2) := by decide +kernel
theorem dX4_init_115 : decode cX4_init 115 = .ok (.newarray .int, 2) := by decide +kernel
theorem dX4_init_117 : decode cX4_init 117 = .ok (.putfield 54, 3) := by decide +kernel
theorem dX4_init_120 : decode cX4_init 120 = .ok (.aload_n 0, 1) := by decide +kernel
theorem dX4_init_121 : decode cX4_init 121 = .ok (.bipush 24, 2) := by decide +kernel
theorem dX4_init_123 : decode cX4_init 123 = .ok (.newarray .int, 2) := by decide +kernel
theorem dX4_init_125 : decode cX4_init 125 = .ok (.putfield 57, 3) := by decide +kernel
theorem dX4_init_128 : decode cX4_init 128 = .ok (.aload_n 0, 1) := by decide +kernel
theorem dX4_init_129 : decode cX4_init 129 = .ok (.bipush 6, 2) := by decide +kernel
theorem dX4_init_131 : decode cX4_init 131 = .ok (.newarray .int, 2) := by decide +kernel
theorem dX4_init_133 : decode cX4_init 133 = .ok (.putfield 60, 3) := by decide +kernel
theorem dX4_init_136 : decode cX4_init 136 = .ok (.aload_n 0, 1) := by decide +kernel
theorem dX4_init_137 : decode cX4_init 137 = .ok (.bipush 36, 2) := by decide +kernel
theorem dX4_init_139 : decode cX4_init 139 = .ok (.newarray .int, 2) := by decide +kernel
theorem dX4_init_141 : decode cX4_init 141 = .ok (.putfield 63, 3) := by decide +kernel
theorem dX4_init_144 : decode cX4_init 144 = .ok (.aload_n 0, 1) := by decide +kernel
theorem dX4_init_145 : decode cX4_init 145 = .ok (.bipush 36, 2) := by decide +kernel
theorem dX4_init_147 : decode cX4_init 147 = .ok (.newarray .int, 2) := by decide +kernel
theorem dX4_init_149 : decode cX4_init 149 = .ok (.putfield 66, 3) := by decide +kernel
theorem dX4_init_152 : decode cX4_init 152 = .ok (.aload_n 0, 1) := by decide +kernel
theorem dX4_init_153 : decode cX4_init 153 = .ok (.bipush 6, 2) := by decide +kernel
theorem dX4_init_155 : decode cX4_init 155 = .ok (.newarray .boolean, 2) := by decide +kernel
theorem dX4_init_157 : decode cX4_init 157 = .ok (.putfield 69, 3) := by decide +kernel
theorem dX4_init_160 : decode cX4_init 160 = .ok (.aload_n 0, 1) := by decide +kernel
theorem dX4_init_161 : decode cX4_init 161 = .ok (.bipush 6, 2) := by decide +kernel
theorem dX4_init_163 : decode cX4_init 163 = .ok (.newarray .int, 2) := by decide +kernel
theorem dX4_init_165 : decode cX4_init 165 = .ok (.putfield 72, 3) := by decide +kernel
theorem dX4_init_168 : decode cX4_init 168 = .ok (.return_, 1) := by decide +kernel
theorem dX4_within_0 : decode cX4_within 0 = .ok (.iload_n 0, 1) := by decide +kernel
theorem dX4_within_1 : decode cX4_within 1 = .ok (.iload_n 1, 1) := by decide +kernel
theorem dX4_within_2 : decode cX4_within 2 = .ok (.if_icmp .lt 12, 3) := by decide +kernel
theorem dX4_within_5 : decode cX4_within 5 = .ok (.iload_n 0, 1) := by decide +kernel
theorem dX4_within_6 : decode cX4_within 6 = .ok (.iload_n 2, 1) := by decide +kernel
theorem dX4_within_7 : decode cX4_within 7 = .ok (.if_icmp .gt 7, 3) := by decide +kernel
theorem dX4_within_10 : decode cX4_within 10 = .ok (.iconst 1, 1) := by decide +kernel
theorem dX4_within_11 : decode cX4_within 11 = .ok (.goto 4, 3) := by decide +kernel
theorem dX4_within_14 : decode cX4_within 14 = .ok (.iconst 0, 1) := by decide +kernel
theorem dX4_within_15 : decode cX4_within 15 = .ok (.ireturn, 1) := by decide +kernel
set_option maxRecDepth 20000 in
theorem ggX4_letter_X4_within : GoodIn wsX4_letter wsX4_within := goodIn_r _ [8] (by decide +kernel) (by decide +kernel)
set_option maxRecDepth 20000 in
theorem gX4_letter_X4_within : GoodIn wsX4_letter (va_wsS RX4 75 yX4_within wsX4_within) := goodIn_app (goodIn_of _ (by decide +kernel)) ggX4_letter_X4_within
theorem dX4_letter_0 : decode cX4_letter 0 = .ok (.iload_n 1, 1) := by decide +kernel
theorem dX4_letter_1 : decode cX4_letter 1 = .ok (.bipush 32, 2) := by decide +kernel
theorem dX4_letter_3 : decode cX4_letter 3 = .ok (.bipush 126, 2) := by decide +kernel
theorem dX4_letter_5 : decode cX4_letter 5 = .ok (.invokestatic 75, 3) := by decide +kernel
theorem dX4_letter_8 : decode cX4_letter 8 = .ok (.ifCond .ne 6, 3) := by decide +kernel
theorem dX4_letter_11 : decode cX4_letter 11 = .ok (.ldc 79, 2) := by decide +kernel
theorem dX4_letter_13 : decode cX4_letter 13 = .ok (.ireturn, 1) := by decide +kernel
theorem dX4_letter_14 : decode cX4_letter 14 = .ok (.aload_n 0, 1) := by decide +kernel
theorem dX4_letter_15 : decode cX4_letter 15 = .ok (.getfield 80, 3) := by decide +kernel
theorem dX4_letter_18 : decode cX4_letter 18 = .ok (.bipush 61, 2) := by decide +kernel
theorem dX4_letter_20 : decode cX4_letter 20 = .ok (.if_icmp .ne 6, 3) := by decide +kernel
theorem dX4_letter_23 : decode cX4_letter 23 = .ok (.ldc 83, 2) := by decide +kernel
theorem dX4_letter_25 : decode cX4_letter 25 = .ok (.ireturn, 1) := by decide +kernel
theorem dX4_letter_26 : decode cX4_letter 26 = .ok (.aload_n 0, 1) := by decide +kernel
theorem dX4_letter_27 : decode cX4_letter 27 = .ok (.getfield 7, 3) := by decide +kernel
theorem dX4_letter_30 : decode cX4_letter 30 = .ok (.aload_n 0, 1) := by decide +kernel
theorem dX4_letter_31 : decode cX4_letter 31 = .ok (.getfield 80, 3) := by decide +kernel
theorem dX4_letter_34 : decode cX4_letter 34 = .ok (.iload_n 1, 1) := by decide +kernel
theorem dX4_letter_35 : decode cX4_letter 35 = .ok (.iastore, 1) := by decide +kernel
theorem dX4_letter_36 : decode cX4_letter 36 = .ok (.aload_n 0, 1) := by decide +kernel
theorem dX4_letter_37 : decode cX4_letter 37 = .ok (.dup, 1) := by decide +kernel
theorem dX4_letter_38 : decode cX4_letter 38 = .ok (.getfield 80, 3) := by decide +kernel
theorem dX4_letter_41 : decode cX4_letter 41 = .ok (.iconst 1, 1) := by decide +kernel
theorem dX4_letter_42 : decode cX4_letter 42 = .ok (.iadd, 1) := by decide +kernel
theorem dX4_letter_43 : decode cX4_letter 43 = .ok (.putfield 80, 3) := by decide +kernel
theorem dX4_letter_46 : decode cX4_letter 46 = .ok (.aload_n 0, 1) := by decide +kernel
theorem dX4_letter_47 : decode cX4_letter 47 = .ok (.getfield 80, 3) := by decide +kernel
theorem dX4_letter_50 : decode cX4_letter 50 = .ok (.ireturn, 1) := by decide +kernel
theorem dX4_blank_0 : decode cX4_blank 0 = .ok (.aload_n 0, 1) := by decide +kernel
theorem dX4_blank_1 : decode cX4_blank 1 = .ok (.getfield 80, 3) := by decide +kernel
theorem dX4_blank_4 : decode cX4_blank 4 = .ok (.istore_n 1, 1) := by decide +kernel
theorem dX4_blank_5 : decode cX4_blank 5 = .ok (.aload_n 0, 1) := by decide +kernel
theorem dX4_blank_6 : decode cX4_blank 6 = .ok (.iconst 0, 1) := by decide +kernel
theorem dX4_blank_7 : decode cX4_blank 7 = .ok (.putfield 80, 3) := by decide +kernel
theorem dX4_blank_10 : decode cX4_blank 10 = .ok (.iload_n 1, 1) := by decide +kernel
theorem dX4_blank_11 : decode cX4_blank 11 = .ok (.ireturn, 1) := by decide +kernel
set_option maxRecDepth 20000 in
theorem ggX4_takesDigit_X4_within : GoodIn wsX4_takesDigit wsX4_within := goodIn_r _ [11] (by decide +kernel) (by decide +kernel)
set_option maxRecDepth 20000 in
theorem gX4_takesDigit_X4_within : GoodIn wsX4_takesDigit (va_wsS RX4 75 yX4_within wsX4_within) := goodIn_app (goodIn_of _ (by decide +kernel)) ggX4_takesDigit_X4_within
theorem dX4_takesDigit_0 : decode cX4_takesDigit 0 = .ok (.aload_n 0, 1) := by decide +kernel
theorem dX4_takesDigit_1 : decode cX4_takesDigit 1 = .ok (.getfield 84, 3) := by decide +kernel
theorem dX4_takesDigit_4 : decode cX4_takesDigit 4 = .ok (.iconst 1, 1) := by decide +kernel
theorem dX4_takesDigit_5 : decode cX4_takesDigit 5 = .ok (.if_icmp .ne 25, 3) := by decide +kernel
theorem dX4_takesDigit_8 : decode cX4_takesDigit 8 = .ok (.aload_n 0, 1) := by decide +kernel
theorem dX4_takesDigit_9 : decode cX4_takesDigit 9 = .ok (.iload_n 1, 1) := by decide +kernel
theorem dX4_takesDigit_10 : decode cX4_takesDigit 10 = .ok (.putfield 87, 3) := by decide +kernel
theorem dX4_takesDigit_13 : decode cX4_takesDigit 13 = .ok (.aload_n 0, 1) := by decide +kernel
theorem dX4_takesDigit_14 : decode cX4_takesDigit 14 = .ok (.iconst 2, 1) := by decide +kernel
theorem dX4_takesDigit_15 : decode cX4_takesDigit 15 = .ok (.putfield 84, 3) := by decide +kernel
theorem dX4_takesDigit_18 : decode cX4_takesDigit 18 = .ok (.iload_n 1, 1) := by decide +kernel
theorem dX4_takesDigit_19 : decode cX4_takesDigit 19 = .ok (.iconst 0, 1) := by decide +kernel
theorem dX4_takesDigit_20 : decode cX4_takesDigit 20 = .ok (.aload_n 0, 1) := by decide +kernel
theorem dX4_takesDigit_21 : decode cX4_takesDigit 21 = .ok (.getfield 90, 3) := by decide +kernel
theorem dX4_takesDigit_24 : decode cX4_takesDigit 24 = .ok (.iconst 1, 1) := by decide +kernel
theorem dX4_takesDigit_25 : decode cX4_takesDigit 25 = .ok (.isub, 1) := by decide +kernel
theorem dX4_takesDigit_26 : decode cX4_takesDigit 26 = .ok (.invokestatic 75, 3) := by decide +kernel
theorem dX4_takesDigit_29 : decode cX4_takesDigit 29 = .ok (.ireturn, 1) := by decide +kernel
theorem dX4_takesDigit_30 : decode cX4_takesDigit 30 = .ok (.aload_n 0, 1) := by decide +kernel
theorem dX4_takesDigit_31 : decode cX4_takesDigit 31 = .ok (.getfield 84, 3) := by decide +kernel
theorem dX4_takesDigit_34 : decode cX4_takesDigit 34 = .ok (.iconst 2, 1) := by decide +kernel
theorem dX4_takesDigit_35 : decode cX4_takesDigit 35 = .ok (.if_icmp .ne 60, 3) := by decide +kernel
theorem dX4_takesDigit_38 : decode cX4_takesDigit 38 = .ok (.aload_n 0, 1) := by decide +kernel
theorem dX4_takesDigit_39 : decode cX4_takesDigit 39 = .ok (.iload_n 1, 1) := by decide +kernel
theorem dX4_takesDigit_40 : decode cX4_takesDigit 40 = .ok (.putfield 93, 3) := by decide +kernel
theorem dX4_takesDigit_43 : decode cX4_takesDigit 43 = .ok (.aload_n 0, 1) := by decide +kernel
theorem dX4_takesDigit_44 : decode cX4_takesDigit 44 = .ok (.iconst 3, 1) := by decide +kernel
theorem dX4_takesDigit_45 : decode cX4_takesDigit 45 = .ok (.putfield 84, 3) := by decide +kernel
theorem dX4_takesDigit_48 : decode cX4_takesDigit 48 = .ok (.iload_n 1, 1) := by decide +kernel
theorem dX4_takesDigit_49 : decode cX4_takesDigit 49 = .ok (.iconst 0, 1) := by decide +kernel
theorem dX4_takesDigit_50 : decode cX4_takesDigit 50 = .ok (.aload_n 0, 1) := by decide +kernel
theorem dX4_takesDigit_51 : decode cX4_takesDigit 51 = .ok (.getfield 90, 3) := by decide +kernel
theorem dX4_takesDigit_54 : decode cX4_takesDigit 54 = .ok (.iconst 1, 1) := by decide +kernel
theorem dX4_takesDigit_55 : decode cX4_takesDigit 55 = .ok (.isub, 1) := by decide +kernel
theorem dX4_takesDigit_56 : decode cX4_takesDigit 56 = .ok (.invokestatic 75, 3) := by decide +kernel
theorem dX4_takesDigit_59 : decode cX4_takesDigit 59 = .ok (.ifCond .eq 34, 3) := by decide +kernel
theorem dX4_takesDigit_62 : decode cX4_takesDigit 62 = .ok (.iload_n 1, 1) := by decide +kernel
theorem dX4_takesDigit_63 : decode cX4_takesDigit 63 = .ok (.aload_n 0, 1) := by decide +kernel
theorem dX4_takesDigit_64 : decode cX4_takesDigit 64 = .ok (.getfield 87, 3) := by decide +kernel
theorem dX4_takesDigit_67 : decode cX4_takesDigit 67 = .ok (.if_icmp .eq 26, 3) := by decide +kernel
theorem dX4_takesDigit_70 : decode cX4_takesDigit 70 = .ok (.aload_n 0, 1) := by decide +kernel
theorem dX4_takesDigit_71 : decode cX4_takesDigit 71 = .ok (.getfield 39, 3) := by decide +kernel
theorem dX4_takesDigit_74 : decode cX4_takesDigit 74 = .ok (.bipush 6, 2) := by decide +kernel
theorem dX4_takesDigit_76 : decode cX4_takesDigit 76 = .ok (.aload_n 0, 1) := by decide +kernel
theorem dX4_takesDigit_77 : decode cX4_takesDigit 77 = .ok (.getfield 87, 3) := by decide +kernel
theorem dX4_takesDigit_80 : decode cX4_takesDigit 80 = .ok (.imul, 1) := by decide +kernel
theorem dX4_takesDigit_81 : decode cX4_takesDigit 81 = .ok (.iload_n 1, 1) := by decide +kernel
theorem dX4_takesDigit_82 : decode cX4_takesDigit 82 = .ok (.iadd, 1) := by decide +kernel
theorem dX4_takesDigit_83 : decode cX4_takesDigit 83 = .ok (.iaload, 1) := by decide +kernel
theorem dX4_takesDigit_84 : decode cX4_takesDigit 84 = .ok (.ldc 96, 2) := by decide +kernel
theorem dX4_takesDigit_86 : decode cX4_takesDigit 86 = .ok (.if_icmp .ne 7, 3) := by decide +kernel
theorem dX4_takesDigit_89 : decode cX4_takesDigit 89 = .ok (.iconst 1, 1) := by decide +kernel
theorem dX4_takesDigit_90 : decode cX4_takesDigit 90 = .ok (.goto 4, 3) := by decide +kernel
theorem dX4_takesDigit_93 : decode cX4_takesDigit 93 = .ok (.iconst 0, 1) := by decide +kernel
theorem dX4_takesDigit_94 : decode cX4_takesDigit 94 = .ok (.ireturn, 1) := by decide +kernel
theorem dX4_takesDigit_95 : decode cX4_takesDigit 95 = .ok (.iload_n 1, 1) := by decide +kernel
theorem dX4_takesDigit_96 : decode cX4_takesDigit 96 = .ok (.iconst 0, 1) := by decide +kernel
theorem dX4_takesDigit_97 : decode cX4_takesDigit 97 = .ok (.iconst 3, 1) := by decide +kernel
theorem dX4_takesDigit_98 : decode cX4_takesDigit 98 = .ok (.invokestatic 75, 3) := by decide +kernel
theorem dX4_takesDigit_101 : decode cX4_takesDigit 101 = .ok (.istore_n 2, 1) := by decide +kernel
theorem dX4_takesDigit_102 : decode cX4_takesDigit 102 = .ok (.iload_n 2, 1) := by decide +kernel
theorem dX4_takesDigit_103 : decode cX4_takesDigit 103 = .ok (.ifCond .eq 54, 3) := by decide +kernel
theorem dX4_takesDigit_106 : decode cX4_takesDigit 106 = .ok (.aload_n 0, 1) := by decide +kernel
theorem dX4_takesDigit_107 : decode cX4_takesDigit 107 = .ok (.getfield 39, 3) := by decide +kernel
theorem dX4_takesDigit_110 : decode cX4_takesDigit 110 = .ok (.bipush 6, 2) := by decide +kernel
theorem dX4_takesDigit_112 : decode cX4_takesDigit 112 = .ok (.aload_n 0, 1) := by decide +kernel
theorem dX4_takesDigit_113 : decode cX4_takesDigit 113 = .ok (.getfield 87, 3) := by decide +kernel
theorem dX4_takesDigit_116 : decode cX4_takesDigit 116 = .ok (.imul, 1) := by decide +kernel
theorem dX4_takesDigit_117 : decode cX4_takesDigit 117 = .ok (.aload_n 0, 1) := by decide +kernel
theorem dX4_takesDigit_118 : decode cX4_takesDigit 118 = .ok (.getfield 93, 3) := by decide +kernel
theorem dX4_takesDigit_121 : decode cX4_takesDigit 121 = .ok (.iadd, 1) := by decide +kernel
theorem dX4_takesDigit_122 : decode cX4_takesDigit 122 = .ok (.iload_n 1, 1) := by decide +kernel
theorem dX4_takesDigit_123 : decode cX4_takesDigit 123 = .ok (.iastore, 1) := by decide +kernel
theorem dX4_takesDigit_124 : decode cX4_takesDigit 124 = .ok (.aload_n 0, 1) := by decide +kernel
theorem dX4_takesDigit_125 : decode cX4_takesDigit 125 = .ok (.getfield 39, 3) := by decide +kernel
theorem dX4_takesDigit_128 : decode cX4_takesDigit 128 = .ok (.bipush 6, 2) := by decide +kernel
theorem dX4_takesDigit_130 : decode cX4_takesDigit 130 = .ok (.aload_n 0, 1) := by decide +kernel
theorem dX4_takesDigit_131 : decode cX4_takesDigit 131 = .ok (.getfield 93, 3) := by decide +kernel
theorem dX4_takesDigit_134 : decode cX4_takesDigit 134 = .ok (.imul, 1) := by decide +kernel
theorem dX4_takesDigit_135 : decode cX4_takesDigit 135 = .ok (.aload_n 0, 1) := by decide +kernel
theorem dX4_takesDigit_136 : decode cX4_takesDigit 136 = .ok (.getfield 87, 3) := by decide +kernel
theorem dX4_takesDigit_139 : decode cX4_takesDigit 139 = .ok (.iadd, 1) := by decide +kernel
theorem dX4_takesDigit_140 : decode cX4_takesDigit 140 = .ok (.iload_n 1, 1) := by decide +kernel
theorem dX4_takesDigit_141 : decode cX4_takesDigit 141 = .ok (.iastore, 1) := by decide +kernel
theorem dX4_takesDigit_142 : decode cX4_takesDigit 142 = .ok (.aload_n 0, 1) := by decide +kernel
theorem dX4_takesDigit_143 : decode cX4_takesDigit 143 = .ok (.dup, 1) := by decide +kernel
theorem dX4_takesDigit_144 : decode cX4_takesDigit 144 = .ok (.getfield 97, 3) := by decide +kernel
theorem dX4_takesDigit_147 : decode cX4_takesDigit 147 = .ok (.iconst 1, 1) := by decide +kernel
theorem dX4_takesDigit_148 : decode cX4_takesDigit 148 = .ok (.iadd, 1) := by decide +kernel
theorem dX4_takesDigit_149 : decode cX4_takesDigit 149 = .ok (.putfield 97, 3) := by decide +kernel
theorem dX4_takesDigit_152 : decode cX4_takesDigit 152 = .ok (.aload_n 0, 1) := by decide +kernel
theorem dX4_takesDigit_153 : decode cX4_takesDigit 153 = .ok (.iconst 0, 1) := by decide +kernel
theorem dX4_takesDigit_154 : decode cX4_takesDigit 154 = .ok (.putfield 84, 3) := by decide +kernel
theorem dX4_takesDigit_157 : decode cX4_takesDigit 157 = .ok (.iload_n 2, 1) := by decide +kernel
theorem dX4_takesDigit_158 : decode cX4_takesDigit 158 = .ok (.ireturn, 1) := by decide +kernel
set_option maxRecDepth 20000 in
theorem ggX4_takes_X4_within : GoodIn wsX4_takes wsX4_within := goodIn_r _ [6] (by decide +kernel) (by decide +kernel)
set_option maxRecDepth 20000 in
theorem gX4_takes_X4_within : GoodIn wsX4_takes (va_wsS RX4 75 yX4_within wsX4_within) := goodIn_app (goodIn_of _ (by decide +kernel)) ggX4_takes_X4_within
set_option maxRecDepth 20000 in
theorem ggX4_takes_X4_takesDigit : GoodIn wsX4_takes wsX4_takesDigit := goodIn_r _ [10, 2, 11, 1, 12, 13, 14, 15, 3, 4, 5, 6, 16, 17, 18, 19, 20, 21, 22, 23, 24, 25, 26, 27, 28, 29, 30, 31, 32, 33, 34, 35, 36, 37, 38, 39, 40, 41, 42, 43, 44, 45, 46, 47, 48, 49, 50, 51, 52, 53, 54] (by decide +kernel) (by decide +kernel)
set_option maxRecDepth 20000 in
theorem gX4_takes_X4_takesDigit : GoodIn wsX4_takes (wsV RX4 100 RX4 yX4_takesDigit wsX4_takesDigit) := goodIn_app (goodIn_of _ (by decide +kernel)) ggX4_takes_X4_takesDigit
theorem dX4_takes_0 : decode cX4_takes 0 = .ok (.aload_n 0, 1) := by decide +kernel
theorem dX4_takes_1 : decode cX4_takes 1 = .ok (.getfield 90, 3) := by decide +kernel
theorem dX4_takes_4 : decode cX4_takes 4 = .ok (.ifCond .ne 39, 3) := by decide +kernel
theorem dX4_takes_7 : decode cX4_takes 7 = .ok (.aload_n 0, 1) := by decide +kernel
theorem dX4_takes_8 : decode cX4_takes 8 = .ok (.iload_n 1, 1) := by decide +kernel
theorem dX4_takes_9 : decode cX4_takes 9 = .ok (.bipush 50, 2) := by decide +kernel
theorem dX4_takes_11 : decode cX4_takes 11 = .ok (.bipush 54, 2) := by decide +kernel
theorem dX4_takes_13 : decode cX4_takes 13 = .ok (.invokestatic 75, 3) := by decide +kernel
theorem dX4_takes_16 : decode cX4_takes 16 = .ok (.ifCond .eq 10, 3) := by decide +kernel
theorem dX4_takes_19 : decode cX4_takes 19 = .ok (.iload_n 1, 1) := by decide +kernel
theorem dX4_takes_20 : decode cX4_takes 20 = .ok (.bipush 48, 2) := by decide +kernel
theorem dX4_takes_22 : decode cX4_takes 22 = .ok (.isub, 1) := by decide +kernel
theorem dX4_takes_23 : decode cX4_takes 23 = .ok (.goto 4, 3) := by decide +kernel
theorem dX4_takes_26 : decode cX4_takes 26 = .ok (.iconst 0, 1) := by decide +kernel
theorem dX4_takes_27 : decode cX4_takes 27 = .ok (.putfield 90, 3) := by decide +kernel
theorem dX4_takes_30 : decode cX4_takes 30 = .ok (.aload_n 0, 1) := by decide +kernel
theorem dX4_takes_31 : decode cX4_takes 31 = .ok (.getfield 90, 3) := by decide +kernel
theorem dX4_takes_34 : decode cX4_takes 34 = .ok (.ifCond .le 7, 3) := by decide +kernel
theorem dX4_takes_37 : decode cX4_takes 37 = .ok (.iconst 1, 1) := by decide +kernel
theorem dX4_takes_38 : decode cX4_takes 38 = .ok (.goto 4, 3) := by decide +kernel
theorem dX4_takes_41 : decode cX4_takes 41 = .ok (.iconst 0, 1) := by decide +kernel
theorem dX4_takes_42 : decode cX4_takes 42 = .ok (.ireturn, 1) := by decide +kernel
theorem dX4_takes_43 : decode cX4_takes 43 = .ok (.aload_n 0, 1) := by decide +kernel
theorem dX4_takes_44 : decode cX4_takes 44 = .ok (.getfield 84, 3) := by decide +kernel
theorem dX4_takes_47 : decode cX4_takes 47 = .ok (.ifCond .ne 30, 3) := by decide +kernel
theorem dX4_takes_50 : decode cX4_takes 50 = .ok (.aload_n 0, 1) := by decide +kernel
theorem dX4_takes_51 : decode cX4_takes 51 = .ok (.iload_n 1, 1) := by decide +kernel
theorem dX4_takes_52 : decode cX4_takes 52 = .ok (.bipush 44, 2) := by decide +kernel
theorem dX4_takes_54 : decode cX4_takes 54 = .ok (.if_icmp .ne 7, 3) := by decide +kernel
theorem dX4_takes_57 : decode cX4_takes 57 = .ok (.iconst 1, 1) := by decide +kernel
theorem dX4_takes_58 : decode cX4_takes 58 = .ok (.goto 4, 3) := by decide +kernel
theorem dX4_takes_61 : decode cX4_takes 61 = .ok (.iconst 0, 1) := by decide +kernel
theorem dX4_takes_62 : decode cX4_takes 62 = .ok (.putfield 84, 3) := by decide +kernel
theorem dX4_takes_65 : decode cX4_takes 65 = .ok (.iload_n 1, 1) := by decide +kernel
theorem dX4_takes_66 : decode cX4_takes 66 = .ok (.bipush 44, 2) := by decide +kernel
theorem dX4_takes_68 : decode cX4_takes 68 = .ok (.if_icmp .ne 7, 3) := by decide +kernel
theorem dX4_takes_71 : decode cX4_takes 71 = .ok (.iconst 1, 1) := by decide +kernel
theorem dX4_takes_72 : decode cX4_takes 72 = .ok (.goto 4, 3) := by decide +kernel
theorem dX4_takes_75 : decode cX4_takes 75 = .ok (.iconst 0, 1) := by decide +kernel
theorem dX4_takes_76 : decode cX4_takes 76 = .ok (.ireturn, 1) := by decide +kernel
theorem dX4_takes_77 : decode cX4_takes 77 = .ok (.aload_n 0, 1) := by decide +kernel
theorem dX4_takes_78 : decode cX4_takes 78 = .ok (.iload_n 1, 1) := by decide +kernel
theorem dX4_takes_79 : decode cX4_takes 79 = .ok (.bipush 48, 2) := by decide +kernel
theorem dX4_takes_81 : decode cX4_takes 81 = .ok (.isub, 1) := by decide +kernel
theorem dX4_takes_82 : decode cX4_takes 82 = .ok (.invokevirtual 100, 3) := by decide +kernel
theorem dX4_takes_85 : decode cX4_takes 85 = .ok (.ireturn, 1) := by decide +kernel
set_option maxRecDepth 20000 in
theorem ggX4_goAlong_X4_takes : GoodIn wsX4_goAlong wsX4_takes := goodIn_r _ [12, 1, 3, 13, 14, 11, 15, 16, 17, 18, 19, 20, 21, 4, 5, 2, 22, 23, 24, 25, 26, 27, 28, 29, 30, 31, 32, 33, 34, 35, 36, 37, 38, 39, 40, 41, 42, 43, 44, 45, 46, 47, 48, 49, 50, 51, 52, 53, 54, 55, 56, 57, 58, 59, 60] (by decide +kernel) (by decide +kernel)
set_option maxRecDepth 20000 in
theorem gX4_goAlong_X4_takes : GoodIn wsX4_goAlong (wsV RX4 104 RX4 yX4_takes wsX4_takes) := goodIn_app (goodIn_of _ (by decide +kernel)) ggX4_goAlong_X4_takes
theorem dX4_goAlong_0 : decode cX4_goAlong 0 = .ok (.aload_n 0, 1) := by decide +kernel
theorem dX4_goAlong_1 : decode cX4_goAlong 1 = .ok (.iconst 0, 1) := by decide +kernel
theorem dX4_goAlong_2 : decode cX4_goAlong 2 = .ok (.putfield 90, 3) := by decide +kernel
theorem dX4_goAlong_5 : decode cX4_goAlong 5 = .ok (.aload_n 0, 1) := by decide +kernel
theorem dX4_goAlong_6 : decode cX4_goAlong 6 = .ok (.iconst 0, 1) := by decide +kernel
theorem dX4_goAlong_7 : decode cX4_goAlong 7 = .ok (.putfield 97, 3) := by decide +kernel
theorem dX4_goAlong_10 : decode cX4_goAlong 10 = .ok (.aload_n 0, 1) := by decide +kernel
theorem dX4_goAlong_11 : decode cX4_goAlong 11 = .ok (.iconst 0, 1) := by decide +kernel
theorem dX4_goAlong_12 : decode cX4_goAlong 12 = .ok (.putfield 84, 3) := by decide +kernel
theorem dX4_goAlong_15 : decode cX4_goAlong 15 = .ok (.iconst 0, 1) := by decide +kernel
theorem dX4_goAlong_16 : decode cX4_goAlong 16 = .ok (.istore_n 1, 1) := by decide +kernel
theorem dX4_goAlong_17 : decode cX4_goAlong 17 = .ok (.iload_n 1, 1) := by decide +kernel
theorem dX4_goAlong_18 : decode cX4_goAlong 18 = .ok (.bipush 36, 2) := by decide +kernel
theorem dX4_goAlong_20 : decode cX4_goAlong 20 = .ok (.if_icmp .ge 17, 3) := by decide +kernel
theorem dX4_goAlong_23 : decode cX4_goAlong 23 = .ok (.aload_n 0, 1) := by decide +kernel
theorem dX4_goAlong_24 : decode cX4_goAlong 24 = .ok (.getfield 39, 3) := by decide +kernel
theorem dX4_goAlong_27 : decode cX4_goAlong 27 = .ok (.iload_n 1, 1) := by decide +kernel
theorem dX4_goAlong_28 : decode cX4_goAlong 28 = .ok (.ldc 96, 2) := by decide +kernel
theorem dX4_goAlong_30 : decode cX4_goAlong 30 = .ok (.iastore, 1) := by decide +kernel
theorem dX4_goAlong_31 : decode cX4_goAlong 31 = .ok (.iinc 1 1, 3) := by decide +kernel
theorem dX4_goAlong_34 : decode cX4_goAlong 34 = .ok (.goto (-17), 3) := by decide +kernel
theorem dX4_goAlong_37 : decode cX4_goAlong 37 = .ok (.iconst 0, 1) := by decide +kernel
theorem dX4_goAlong_38 : decode cX4_goAlong 38 = .ok (.istore_n 1, 1) := by decide +kernel
theorem dX4_goAlong_39 : decode cX4_goAlong 39 = .ok (.iload_n 1, 1) := by decide +kernel
theorem dX4_goAlong_40 : decode cX4_goAlong 40 = .ok (.aload_n 0, 1) := by decide +kernel
theorem dX4_goAlong_41 : decode cX4_goAlong 41 = .ok (.getfield 80, 3) := by decide +kernel
theorem dX4_goAlong_44 : decode cX4_goAlong 44 = .ok (.if_icmp .ge 22, 3) := by decide +kernel
theorem dX4_goAlong_47 : decode cX4_goAlong 47 = .ok (.aload_n 0, 1) := by decide +kernel
theorem dX4_goAlong_48 : decode cX4_goAlong 48 = .ok (.aload_n 0, 1) := by decide +kernel
theorem dX4_goAlong_49 : decode cX4_goAlong 49 = .ok (.getfield 7, 3) := by decide +kernel
theorem dX4_goAlong_52 : decode cX4_goAlong 52 = .ok (.iload_n 1, 1) := by decide +kernel
theorem dX4_goAlong_53 : decode cX4_goAlong 53 = .ok (.iaload, 1) := by decide +kernel
theorem dX4_goAlong_54 : decode cX4_goAlong 54 = .ok (.invokevirtual 104, 3) := by decide +kernel
theorem dX4_goAlong_57 : decode cX4_goAlong 57 = .ok (.ifCond .eq 9, 3) := by decide +kernel
theorem dX4_goAlong_60 : decode cX4_goAlong 60 = .ok (.iinc 1 1, 3) := by decide +kernel
theorem dX4_goAlong_63 : decode cX4_goAlong 63 = .ok (.goto (-24), 3) := by decide +kernel
theorem dX4_goAlong_66 : decode cX4_goAlong 66 = .ok (.iload_n 1, 1) := by decide +kernel
theorem dX4_goAlong_67 : decode cX4_goAlong 67 = .ok (.ireturn, 1) := by decide +kernel
set_option maxRecDepth 20000 in
theorem ggX4_fault_X4_goAlong : GoodIn wsX4_fault wsX4_goAlong := goodIn_r _ [5, 6, 7, 8, 9, 10, 11, 12, 13, 14, 15, 4, 16, 17, 18, 19, 20, 21, 22, 23, 24, 25, 26, 27, 28, 29, 30, 31, 32, 33, 34, 35, 36, 37, 38, 39, 40, 41, 42, 43, 44, 45, 46, 47, 48, 49, 50, 51, 52, 53, 54, 55, 56, 57, 58, 59, 60, 61, 62, 63, 64] (by decide +kernel) (by decide +kernel)
set_option maxRecDepth 20000 in
theorem gX4_fault_X4_goAlong : GoodIn wsX4_fault (wsV RX4 107 RX4 yX4_goAlong wsX4_goAlong) := goodIn_app (goodIn_of _ (by decide +kernel)) ggX4_fault_X4_goAlong
theorem dX4_fault_0 : decode cX4_fault 0 = .ok (.aload_n 0, 1) := by decide +kernel
theorem dX4_fault_1 : decode cX4_fault 1 = .ok (.invokevirtual 107, 3) := by decide +kernel
theorem dX4_fault_4 : decode cX4_fault 4 = .ok (.ireturn, 1) := by decide +kernel
set_option maxRecDepth 20000 in
theorem ggX4_net_X4_goAlong : GoodIn wsX4_net wsX4_goAlong := goodIn_r _ [22, 5, 2, 3, 9, 23, 1, 24, 25, 26, 27, 21, 28, 29, 30, 31, 32, 33, 34, 35, 36, 37, 43, 44, 45, 46, 47, 48, 49, 50, 51, 52, 53, 54, 55, 56, 57, 58, 59, 60, 61, 62, 63, 64, 65, 66, 67, 68, 69, 70, 71, 72, 73, 74, 75, 76, 77, 78, 79, 80, 81] (by decide +kernel) (by decide +kernel)
set_option maxRecDepth 20000 in
theorem gX4_net_X4_goAlong : GoodIn wsX4_net (wsV RX4 107 RX4 yX4_goAlong wsX4_goAlong) := goodIn_app (goodIn_of _ (by decide +kernel)) ggX4_net_X4_goAlong
set_option maxRecDepth 20000 in
theorem ggX4_net_X4_setClock : GoodIn wsX4_net wsX4_setClock := goodIn_r _ [41, 42, 43, 44, 45, 46, 47, 48, 49, 50, 51, 52, 53, 54, 55, 56, 57, 58, 59, 60, 61, 62, 63, 64, 65, 66, 67, 68, 69, 70, 71, 72, 73, 74, 75, 76, 77, 78, 79, 80, 81] (by decide +kernel) (by decide +kernel)
set_option maxRecDepth 20000 in
theorem gX4_net_X4_setClock : GoodIn wsX4_net (wsV RX4 118 RX4 yX4_setClock wsX4_setClock) := goodIn_app (goodIn_of _ (by decide +kernel)) ggX4_net_X4_setClock
theorem dX4_net_0 : decode cX4_net 0 = .ok (.aload_n 0, 1) := by decide +kernel
theorem dX4_net_1 : decode cX4_net 1 = .ok (.invokevirtual 107, 3) := by decide +kernel
theorem dX4_net_4 : decode cX4_net 4 = .ok (.aload_n 0, 1) := by decide +kernel
theorem dX4_net_5 : decode cX4_net 5 = .ok (.getfield 80, 3) := by decide +kernel
theorem dX4_net_8 : decode cX4_net 8 = .ok (.if_icmp .lt 17, 3) := by decide +kernel
theorem dX4_net_11 : decode cX4_net 11 = .ok (.aload_n 0, 1) := by decide +kernel
theorem dX4_net_12 : decode cX4_net 12 = .ok (.getfield 97, 3) := by decide +kernel
theorem dX4_net_15 : decode cX4_net 15 = .ok (.ifCond .eq 10, 3) := by decide +kernel
theorem dX4_net_18 : decode cX4_net 18 = .ok (.aload_n 0, 1) := by decide +kernel
theorem dX4_net_19 : decode cX4_net 19 = .ok (.getfield 84, 3) := by decide +kernel
theorem dX4_net_22 : decode cX4_net 22 = .ok (.ifCond .eq 6, 3) := by decide +kernel
theorem dX4_net_25 : decode cX4_net 25 = .ok (.ldc 111, 2) := by decide +kernel
theorem dX4_net_27 : decode cX4_net 27 = .ok (.ireturn, 1) := by decide +kernel
theorem dX4_net_28 : decode cX4_net 28 = .ok (.aload_n 0, 1) := by decide +kernel
theorem dX4_net_29 : decode cX4_net 29 = .ok (.aload_n 0, 1) := by decide +kernel
theorem dX4_net_30 : decode cX4_net 30 = .ok (.getfield 90, 3) := by decide +kernel
theorem dX4_net_33 : decode cX4_net 33 = .ok (.putfield 112, 3) := by decide +kernel
theorem dX4_net_36 : decode cX4_net 36 = .ok (.aload_n 0, 1) := by decide +kernel
theorem dX4_net_37 : decode cX4_net 37 = .ok (.aload_n 0, 1) := by decide +kernel
theorem dX4_net_38 : decode cX4_net 38 = .ok (.getfield 97, 3) := by decide +kernel
theorem dX4_net_41 : decode cX4_net 41 = .ok (.putfield 115, 3) := by decide +kernel
theorem dX4_net_44 : decode cX4_net 44 = .ok (.iconst 0, 1) := by decide +kernel
theorem dX4_net_45 : decode cX4_net 45 = .ok (.istore_n 1, 1) := by decide +kernel
theorem dX4_net_46 : decode cX4_net 46 = .ok (.iload_n 1, 1) := by decide +kernel
theorem dX4_net_47 : decode cX4_net 47 = .ok (.bipush 36, 2) := by decide +kernel
theorem dX4_net_49 : decode cX4_net 49 = .ok (.if_icmp .ge 28, 3) := by decide +kernel
theorem dX4_net_52 : decode cX4_net 52 = .ok (.aload_n 0, 1) := by decide +kernel
theorem dX4_net_53 : decode cX4_net 53 = .ok (.getfield 13, 3) := by decide +kernel
theorem dX4_net_56 : decode cX4_net 56 = .ok (.iload_n 1, 1) := by decide +kernel
theorem dX4_net_57 : decode cX4_net 57 = .ok (.aload_n 0, 1) := by decide +kernel
theorem dX4_net_58 : decode cX4_net 58 = .ok (.getfield 39, 3) := by decide +kernel
theorem dX4_net_61 : decode cX4_net 61 = .ok (.iload_n 1, 1) := by decide +kernel
theorem dX4_net_62 : decode cX4_net 62 = .ok (.iaload, 1) := by decide +kernel
theorem dX4_net_63 : decode cX4_net 63 = .ok (.iastore, 1) := by decide +kernel
theorem dX4_net_64 : decode cX4_net 64 = .ok (.aload_n 0, 1) := by decide +kernel
theorem dX4_net_65 : decode cX4_net 65 = .ok (.getfield 16, 3) := by decide +kernel
theorem dX4_net_68 : decode cX4_net 68 = .ok (.iload_n 1, 1) := by decide +kernel
theorem dX4_net_69 : decode cX4_net 69 = .ok (.iconst 0, 1) := by decide +kernel
theorem dX4_net_70 : decode cX4_net 70 = .ok (.iastore, 1) := by decide +kernel
theorem dX4_net_71 : decode cX4_net 71 = .ok (.iinc 1 1, 3) := by decide +kernel
theorem dX4_net_74 : decode cX4_net 74 = .ok (.goto (-28), 3) := by decide +kernel
theorem dX4_net_77 : decode cX4_net 77 = .ok (.iconst 0, 1) := by decide +kernel
theorem dX4_net_78 : decode cX4_net 78 = .ok (.istore_n 1, 1) := by decide +kernel
theorem dX4_net_79 : decode cX4_net 79 = .ok (.iload_n 1, 1) := by decide +kernel
theorem dX4_net_80 : decode cX4_net 80 = .ok (.bipush 6, 2) := by decide +kernel
theorem dX4_net_82 : decode cX4_net 82 = .ok (.if_icmp .ge 37, 3) := by decide +kernel
theorem dX4_net_85 : decode cX4_net 85 = .ok (.aload_n 0, 1) := by decide +kernel
theorem dX4_net_86 : decode cX4_net 86 = .ok (.getfield 19, 3) := by decide +kernel
theorem dX4_net_89 : decode cX4_net 89 = .ok (.iload_n 1, 1) := by decide +kernel
theorem dX4_net_90 : decode cX4_net 90 = .ok (.bipush 100, 2) := by decide +kernel
theorem dX4_net_92 : decode cX4_net 92 = .ok (.iastore, 1) := by decide +kernel
theorem dX4_net_93 : decode cX4_net 93 = .ok (.aload_n 0, 1) := by decide +kernel
theorem dX4_net_94 : decode cX4_net 94 = .ok (.getfield 25, 3) := by decide +kernel
theorem dX4_net_97 : decode cX4_net 97 = .ok (.iload_n 1, 1) := by decide +kernel
theorem dX4_net_98 : decode cX4_net 98 = .ok (.iconst 0, 1) := by decide +kernel
theorem dX4_net_99 : decode cX4_net 99 = .ok (.bastore, 1) := by decide +kernel
theorem dX4_net_100 : decode cX4_net 100 = .ok (.aload_n 0, 1) := by decide +kernel
theorem dX4_net_101 : decode cX4_net 101 = .ok (.getfield 29, 3) := by decide +kernel
theorem dX4_net_104 : decode cX4_net 104 = .ok (.iload_n 1, 1) := by decide +kernel
theorem dX4_net_105 : decode cX4_net 105 = .ok (.iconst 0, 1) := by decide +kernel
theorem dX4_net_106 : decode cX4_net 106 = .ok (.iastore, 1) := by decide +kernel
theorem dX4_net_107 : decode cX4_net 107 = .ok (.aload_n 0, 1) := by decide +kernel
theorem dX4_net_108 : decode cX4_net 108 = .ok (.iload_n 1, 1) := by decide +kernel
theorem dX4_net_109 : decode cX4_net 109 = .ok (.iconst 0, 1) := by decide +kernel
theorem dX4_net_110 : decode cX4_net 110 = .ok (.invokevirtual 118, 3) := by decide +kernel
theorem dX4_net_113 : decode cX4_net 113 = .ok (.iinc 1 1, 3) := by decide +kernel
theorem dX4_net_116 : decode cX4_net 116 = .ok (.goto (-37), 3) := by decide +kernel
theorem dX4_net_119 : decode cX4_net 119 = .ok (.aload_n 0, 1) := by decide +kernel
theorem dX4_net_120 : decode cX4_net 120 = .ok (.iconst 0, 1) := by decide +kernel
theorem dX4_net_121 : decode cX4_net 121 = .ok (.putfield 122, 3) := by decide +kernel
theorem dX4_net_124 : decode cX4_net 124 = .ok (.aload_n 0, 1) := by decide +kernel
theorem dX4_net_125 : decode cX4_net 125 = .ok (.iconst 0, 1) := by decide +kernel
theorem dX4_net_126 : decode cX4_net 126 = .ok (.putfield 125, 3) := by decide +kernel
theorem dX4_net_129 : decode cX4_net 129 = .ok (.aload_n 0, 1) := by decide +kernel
theorem dX4_net_130 : decode cX4_net 130 = .ok (.iconst 0, 1) := by decide +kernel
theorem dX4_net_131 : decode cX4_net 131 = .ok (.putfield 128, 3) := by decide +kernel
theorem dX4_net_134 : decode cX4_net 134 = .ok (.aload_n 0, 1) := by decide +kernel
theorem dX4_net_135 : decode cX4_net 135 = .ok (.dup, 1) := by decide +kernel
theorem dX4_net_136 : decode cX4_net 136 = .ok (.getfield 132, 3) := by decide +kernel
theorem dX4_net_139 : decode cX4_net 139 = .ok (.iconst 1, 1) := by decide +kernel
theorem dX4_net_140 : decode cX4_net 140 = .ok (.iadd, 1) := by decide +kernel
theorem dX4_net_141 : decode cX4_net 141 = .ok (.putfield 132, 3) := by decide +kernel
theorem dX4_net_144 : decode cX4_net 144 = .ok (.aload_n 0, 1) := by decide +kernel
theorem dX4_net_145 : decode cX4_net 145 = .ok (.iconst 0, 1) := by decide +kernel
theorem dX4_net_146 : decode cX4_net 146 = .ok (.putfield 80, 3) := by decide +kernel
theorem dX4_net_149 : decode cX4_net 149 = .ok (.aload_n 0, 1) := by decide +kernel
theorem dX4_net_150 : decode cX4_net 150 = .ok (.getfield 112, 3) := by decide +kernel
theorem dX4_net_153 : decode cX4_net 153 = .ok (.ireturn, 1) := by decide +kernel
set_option maxRecDepth 20000 in
theorem ggX4_isNode_X4_within : GoodIn wsX4_isNode wsX4_within := goodIn_r _ [5] (by decide +kernel) (by decide +kernel)
set_option maxRecDepth 20000 in
theorem gX4_isNode_X4_within : GoodIn wsX4_isNode (va_wsS RX4 75 yX4_within wsX4_within) := goodIn_app (goodIn_of _ (by decide +kernel)) ggX4_isNode_X4_within
theorem dX4_isNode_0 : decode cX4_isNode 0 = .ok (.iload_n 1, 1) := by decide +kernel
theorem dX4_isNode_1 : decode cX4_isNode 1 = .ok (.iconst 0, 1) := by decide +kernel
theorem dX4_isNode_2 : decode cX4_isNode 2 = .ok (.aload_n 0, 1) := by decide +kernel
theorem dX4_isNode_3 : decode cX4_isNode 3 = .ok (.getfield 112, 3) := by decide +kernel
theorem dX4_isNode_6 : decode cX4_isNode 6 = .ok (.iconst 1, 1) := by decide +kernel
theorem dX4_isNode_7 : decode cX4_isNode 7 = .ok (.isub, 1) := by decide +kernel
theorem dX4_isNode_8 : decode cX4_isNode 8 = .ok (.invokestatic 75, 3) := by decide +kernel
theorem dX4_isNode_11 : decode cX4_isNode 11 = .ok (.ireturn, 1) := by decide +kernel
set_option maxRecDepth 20000 in
theorem ggX4_areBeside_X4_isNode : GoodIn wsX4_areBeside wsX4_isNode := goodIn_r _ [7, 8, 9, 10, 6, 11, 12, 13, 14, 15, 16, 17, 18, 19, 20, 21, 22, 23, 24, 25, 26, 27, 28, 29, 30, 31, 32, 33, 34, 35, 36, 37, 38, 39, 40, 41, 42, 43, 44, 45, 46, 47, 48, 49, 50] (by decide +kernel) (by decide +kernel)
set_option maxRecDepth 20000 in
theorem gX4_areBeside_X4_isNode : GoodIn wsX4_areBeside (wsV RX4 135 RX4 yX4_isNode wsX4_isNode) := goodIn_app (goodIn_of _ (by decide +kernel)) ggX4_areBeside_X4_isNode
theorem dX4_areBeside_0 : decode cX4_areBeside 0 = .ok (.aload_n 0, 1) := by decide +kernel
theorem dX4_areBeside_1 : decode cX4_areBeside 1 = .ok (.iload_n 1, 1) := by decide +kernel
theorem dX4_areBeside_2 : decode cX4_areBeside 2 = .ok (.invokevirtual 135, 3) := by decide +kernel
theorem dX4_areBeside_5 : decode cX4_areBeside 5 = .ok (.ifCond .eq 36, 3) := by decide +kernel
theorem dX4_areBeside_8 : decode cX4_areBeside 8 = .ok (.aload_n 0, 1) := by decide +kernel
theorem dX4_areBeside_9 : decode cX4_areBeside 9 = .ok (.iload_n 2, 1) := by decide +kernel
theorem dX4_areBeside_10 : decode cX4_areBeside 10 = .ok (.invokevirtual 135, 3) := by decide +kernel
theorem dX4_areBeside_13 : decode cX4_areBeside 13 = .ok (.ifCond .eq 28, 3) := by decide +kernel
theorem dX4_areBeside_16 : decode cX4_areBeside 16 = .ok (.iload_n 1, 1) := by decide +kernel
theorem dX4_areBeside_17 : decode cX4_areBeside 17 = .ok (.iload_n 2, 1) := by decide +kernel
theorem dX4_areBeside_18 : decode cX4_areBeside 18 = .ok (.if_icmp .eq 23, 3) := by decide +kernel
theorem dX4_areBeside_21 : decode cX4_areBeside 21 = .ok (.aload_n 0, 1) := by decide +kernel
theorem dX4_areBeside_22 : decode cX4_areBeside 22 = .ok (.getfield 13, 3) := by decide +kernel
theorem dX4_areBeside_25 : decode cX4_areBeside 25 = .ok (.bipush 6, 2) := by decide +kernel
theorem dX4_areBeside_27 : decode cX4_areBeside 27 = .ok (.iload_n 1, 1) := by decide +kernel
theorem dX4_areBeside_28 : decode cX4_areBeside 28 = .ok (.imul, 1) := by decide +kernel
theorem dX4_areBeside_29 : decode cX4_areBeside 29 = .ok (.iload_n 2, 1) := by decide +kernel
theorem dX4_areBeside_30 : decode cX4_areBeside 30 = .ok (.iadd, 1) := by decide +kernel
theorem dX4_areBeside_31 : decode cX4_areBeside 31 = .ok (.iaload, 1) := by decide +kernel
theorem dX4_areBeside_32 : decode cX4_areBeside 32 = .ok (.ldc 96, 2) := by decide +kernel
theorem dX4_areBeside_34 : decode cX4_areBeside 34 = .ok (.if_icmp .eq 7, 3) := by decide +kernel
theorem dX4_areBeside_37 : decode cX4_areBeside 37 = .ok (.iconst 1, 1) := by decide +kernel
theorem dX4_areBeside_38 : decode cX4_areBeside 38 = .ok (.goto 4, 3) := by decide +kernel
theorem dX4_areBeside_41 : decode cX4_areBeside 41 = .ok (.iconst 0, 1) := by decide +kernel
theorem dX4_areBeside_42 : decode cX4_areBeside 42 = .ok (.ireturn, 1) := by decide +kernel
theorem dX4_setClock_0 : decode cX4_setClock 0 = .ok (.iconst 0, 1) := by decide +kernel
theorem dX4_setClock_1 : decode cX4_setClock 1 = .ok (.istore_n 3, 1) := by decide +kernel
theorem dX4_setClock_2 : decode cX4_setClock 2 = .ok (.iload_n 3, 1) := by decide +kernel
theorem dX4_setClock_3 : decode cX4_setClock 3 = .ok (.iconst 4, 1) := by decide +kernel
theorem dX4_setClock_4 : decode cX4_setClock 4 = .ok (.if_icmp .ge 20, 3) := by decide +kernel
theorem dX4_setClock_7 : decode cX4_setClock 7 = .ok (.aload_n 0, 1) := by decide +kernel
theorem dX4_setClock_8 : decode cX4_setClock 8 = .ok (.getfield 22, 3) := by decide +kernel
theorem dX4_setClock_11 : decode cX4_setClock 11 = .ok (.iconst 4, 1) := by decide +kernel
theorem dX4_setClock_12 : decode cX4_setClock 12 = .ok (.iload_n 1, 1) := by decide +kernel
theorem dX4_setClock_13 : decode cX4_setClock 13 = .ok (.imul, 1) := by decide +kernel
theorem dX4_setClock_14 : decode cX4_setClock 14 = .ok (.iload_n 3, 1) := by decide +kernel
theorem dX4_setClock_15 : decode cX4_setClock 15 = .ok (.iadd, 1) := by decide +kernel
theorem dX4_setClock_16 : decode cX4_setClock 16 = .ok (.iload_n 2, 1) := by decide +kernel
theorem dX4_setClock_17 : decode cX4_setClock 17 = .ok (.iastore, 1) := by decide +kernel
theorem dX4_setClock_18 : decode cX4_setClock 18 = .ok (.iinc 3 1, 3) := by decide +kernel
theorem dX4_setClock_21 : decode cX4_setClock 21 = .ok (.goto (-19), 3) := by decide +kernel
theorem dX4_setClock_24 : decode cX4_setClock 24 = .ok (.return_, 1) := by decide +kernel
set_option maxRecDepth 20000 in
theorem ggX4_set_X4_within : GoodIn wsX4_set wsX4_within := goodIn_r _ [7] (by decide +kernel) (by decide +kernel)
set_option maxRecDepth 20000 in
theorem gX4_set_X4_within : GoodIn wsX4_set (va_wsS RX4 75 yX4_within wsX4_within) := goodIn_app (goodIn_of _ (by decide +kernel)) ggX4_set_X4_within
theorem dX4_set_0 : decode cX4_set 0 = .ok (.iload_n 1, 1) := by decide +kernel
theorem dX4_set_1 : decode cX4_set 1 = .ok (.iconst 0, 1) := by decide +kernel
theorem dX4_set_2 : decode cX4_set 2 = .ok (.iconst 1, 1) := by decide +kernel
theorem dX4_set_3 : decode cX4_set 3 = .ok (.invokestatic 75, 3) := by decide +kernel
theorem dX4_set_6 : decode cX4_set 6 = .ok (.ifCond .eq 23, 3) := by decide +kernel
theorem dX4_set_9 : decode cX4_set 9 = .ok (.iload_n 2, 1) := by decide +kernel
theorem dX4_set_10 : decode cX4_set 10 = .ok (.iconst 1, 1) := by decide +kernel
theorem dX4_set_11 : decode cX4_set 11 = .ok (.iload_n 1, 1) := by decide +kernel
theorem dX4_set_12 : decode cX4_set 12 = .ok (.ifCond .ne 9, 3) := by decide +kernel
theorem dX4_set_15 : decode cX4_set 15 = .ok (.sipush 500, 3) := by decide +kernel
theorem dX4_set_18 : decode cX4_set 18 = .ok (.goto 5, 3) := by decide +kernel
theorem dX4_set_21 : decode cX4_set 21 = .ok (.bipush 60, 2) := by decide +kernel
theorem dX4_set_23 : decode cX4_set 23 = .ok (.invokestatic 75, 3) := by decide +kernel
theorem dX4_set_26 : decode cX4_set 26 = .ok (.ifCond .ne 6, 3) := by decide +kernel
theorem dX4_set_29 : decode cX4_set 29 = .ok (.ldc 79, 2) := by decide +kernel
theorem dX4_set_31 : decode cX4_set 31 = .ok (.ireturn, 1) := by decide +kernel
theorem dX4_set_32 : decode cX4_set 32 = .ok (.iload_n 1, 1) := by decide +kernel
theorem dX4_set_33 : decode cX4_set 33 = .ok (.ifCond .ne 10, 3) := by decide +kernel
theorem dX4_set_36 : decode cX4_set 36 = .ok (.aload_n 0, 1) := by decide +kernel
theorem dX4_set_37 : decode cX4_set 37 = .ok (.getfield 32, 3) := by decide +kernel
theorem dX4_set_40 : decode cX4_set 40 = .ok (.goto 7, 3) := by decide +kernel
theorem dX4_set_43 : decode cX4_set 43 = .ok (.aload_n 0, 1) := by decide +kernel
theorem dX4_set_44 : decode cX4_set 44 = .ok (.getfield 36, 3) := by decide +kernel
theorem dX4_set_47 : decode cX4_set 47 = .ok (.istore_n 3, 1) := by decide +kernel
theorem dX4_set_48 : decode cX4_set 48 = .ok (.aload_n 0, 1) := by decide +kernel
theorem dX4_set_49 : decode cX4_set 49 = .ok (.iload_n 1, 1) := by decide +kernel
theorem dX4_set_50 : decode cX4_set 50 = .ok (.ifCond .ne 7, 3) := by decide +kernel
theorem dX4_set_53 : decode cX4_set 53 = .ok (.iload_n 2, 1) := by decide +kernel
theorem dX4_set_54 : decode cX4_set 54 = .ok (.goto 7, 3) := by decide +kernel
theorem dX4_set_57 : decode cX4_set 57 = .ok (.aload_n 0, 1) := by decide +kernel
theorem dX4_set_58 : decode cX4_set 58 = .ok (.getfield 32, 3) := by decide +kernel
theorem dX4_set_61 : decode cX4_set 61 = .ok (.putfield 32, 3) := by decide +kernel
theorem dX4_set_64 : decode cX4_set 64 = .ok (.aload_n 0, 1) := by decide +kernel
theorem dX4_set_65 : decode cX4_set 65 = .ok (.iload_n 1, 1) := by decide +kernel
theorem dX4_set_66 : decode cX4_set 66 = .ok (.ifCond .ne 10, 3) := by decide +kernel
theorem dX4_set_69 : decode cX4_set 69 = .ok (.aload_n 0, 1) := by decide +kernel
theorem dX4_set_70 : decode cX4_set 70 = .ok (.getfield 36, 3) := by decide +kernel
theorem dX4_set_73 : decode cX4_set 73 = .ok (.goto 4, 3) := by decide +kernel
theorem dX4_set_76 : decode cX4_set 76 = .ok (.iload_n 2, 1) := by decide +kernel
theorem dX4_set_77 : decode cX4_set 77 = .ok (.putfield 36, 3) := by decide +kernel
theorem dX4_set_80 : decode cX4_set 80 = .ok (.iload_n 3, 1) := by decide +kernel
theorem dX4_set_81 : decode cX4_set 81 = .ok (.ireturn, 1) := by decide +kernel
set_option maxRecDepth 20000 in
theorem ggX4_rate_X4_isNode : GoodIn wsX4_rate wsX4_isNode := goodIn_r _ [8, 9, 10, 11, 7, 12, 13, 14, 15, 16, 17, 18, 19, 20, 21, 22, 23, 24, 25, 26, 27, 28, 29, 30, 31, 32, 33, 34, 35, 36, 37, 38, 39, 40, 41, 42, 43, 44, 45, 46, 47, 48, 49, 50, 51] (by decide +kernel) (by decide +kernel)
set_option maxRecDepth 20000 in
theorem gX4_rate_X4_isNode : GoodIn wsX4_rate (wsV RX4 135 RX4 yX4_isNode wsX4_isNode) := goodIn_app (goodIn_of _ (by decide +kernel)) ggX4_rate_X4_isNode
set_option maxRecDepth 20000 in
theorem ggX4_rate_X4_within : GoodIn wsX4_rate wsX4_within := goodIn_r _ [12] (by decide +kernel) (by decide +kernel)
set_option maxRecDepth 20000 in
theorem gX4_rate_X4_within : GoodIn wsX4_rate (va_wsS RX4 75 yX4_within wsX4_within) := goodIn_app (goodIn_of _ (by decide +kernel)) ggX4_rate_X4_within
theorem dX4_rate_0 : decode cX4_rate 0 = .ok (.aload_n 0, 1) := by decide +kernel
theorem dX4_rate_1 : decode cX4_rate 1 = .ok (.iload_n 1, 1) := by decide +kernel
theorem dX4_rate_2 : decode cX4_rate 2 = .ok (.invokevirtual 135, 3) := by decide +kernel
theorem dX4_rate_5 : decode cX4_rate 5 = .ok (.ifCond .ne 6, 3) := by decide +kernel
theorem dX4_rate_8 : decode cX4_rate 8 = .ok (.ldc 138, 2) := by decide +kernel
theorem dX4_rate_10 : decode cX4_rate 10 = .ok (.ireturn, 1) := by decide +kernel
theorem dX4_rate_11 : decode cX4_rate 11 = .ok (.iload_n 2, 1) := by decide +kernel
theorem dX4_rate_12 : decode cX4_rate 12 = .ok (.bipush 90, 2) := by decide +kernel
theorem dX4_rate_14 : decode cX4_rate 14 = .ok (.bipush 110, 2) := by decide +kernel
theorem dX4_rate_16 : decode cX4_rate 16 = .ok (.invokestatic 75, 3) := by decide +kernel
theorem dX4_rate_19 : decode cX4_rate 19 = .ok (.ifCond .ne 6, 3) := by decide +kernel
theorem dX4_rate_22 : decode cX4_rate 22 = .ok (.ldc 79, 2) := by decide +kernel
theorem dX4_rate_24 : decode cX4_rate 24 = .ok (.ireturn, 1) := by decide +kernel
theorem dX4_rate_25 : decode cX4_rate 25 = .ok (.aload_n 0, 1) := by decide +kernel
theorem dX4_rate_26 : decode cX4_rate 26 = .ok (.getfield 19, 3) := by decide +kernel
theorem dX4_rate_29 : decode cX4_rate 29 = .ok (.iload_n 1, 1) := by decide +kernel
theorem dX4_rate_30 : decode cX4_rate 30 = .ok (.iaload, 1) := by decide +kernel
theorem dX4_rate_31 : decode cX4_rate 31 = .ok (.istore_n 3, 1) := by decide +kernel
theorem dX4_rate_32 : decode cX4_rate 32 = .ok (.aload_n 0, 1) := by decide +kernel
theorem dX4_rate_33 : decode cX4_rate 33 = .ok (.getfield 19, 3) := by decide +kernel
theorem dX4_rate_36 : decode cX4_rate 36 = .ok (.iload_n 1, 1) := by decide +kernel
theorem dX4_rate_37 : decode cX4_rate 37 = .ok (.iload_n 2, 1) := by decide +kernel
theorem dX4_rate_38 : decode cX4_rate 38 = .ok (.iastore, 1) := by decide +kernel
theorem dX4_rate_39 : decode cX4_rate 39 = .ok (.iload_n 3, 1) := by decide +kernel
theorem dX4_rate_40 : decode cX4_rate 40 = .ok (.ireturn, 1) := by decide +kernel
set_option maxRecDepth 20000 in
theorem ggX4_put_X4_isNode : GoodIn wsX4_put wsX4_isNode := goodIn_r _ [9, 10, 11, 12, 8, 13, 18, 19, 20, 21, 22, 23, 24, 25, 26, 27, 28, 29, 30, 31, 32, 33, 34, 35, 36, 37, 38, 39, 40, 41, 42, 43, 44, 45, 46, 47, 48, 49, 50, 51, 52, 53, 54, 55, 56] (by decide +kernel) (by decide +kernel)
set_option maxRecDepth 20000 in
theorem gX4_put_X4_isNode : GoodIn wsX4_put (wsV RX4 135 RX4 yX4_isNode wsX4_isNode) := goodIn_app (goodIn_of _ (by decide +kernel)) ggX4_put_X4_isNode
set_option maxRecDepth 20000 in
theorem ggX4_put_X4_within : GoodIn wsX4_put wsX4_within := goodIn_r _ [13] (by decide +kernel) (by decide +kernel)
set_option maxRecDepth 20000 in
theorem gX4_put_X4_within : GoodIn wsX4_put (va_wsS RX4 75 yX4_within wsX4_within) := goodIn_app (goodIn_of _ (by decide +kernel)) ggX4_put_X4_within
set_option maxRecDepth 20000 in
theorem ggX4_put_X4_setClock : GoodIn wsX4_put wsX4_setClock := goodIn_r _ [17, 4, 18, 19, 20, 21, 22, 23, 24, 25, 26, 27, 28, 29, 30, 31, 32, 33, 34, 35, 36, 37, 38, 39, 40, 41, 42, 43, 44, 45, 46, 47, 48, 49, 50, 51, 52, 53, 54, 55, 56] (by decide +kernel) (by decide +kernel)
set_option maxRecDepth 20000 in
theorem gX4_put_X4_setClock : GoodIn wsX4_put (wsV RX4 118 RX4 yX4_setClock wsX4_setClock) := goodIn_app (goodIn_of _ (by decide +kernel)) ggX4_put_X4_setClock
theorem dX4_put_0 : decode cX4_put 0 = .ok (.aload_n 0, 1) := by decide +kernel
theorem dX4_put_1 : decode cX4_put 1 = .ok (.iload_n 1, 1) := by decide +kernel
theorem dX4_put_2 : decode cX4_put 2 = .ok (.invokevirtual 135, 3) := by decide +kernel
theorem dX4_put_5 : decode cX4_put 5 = .ok (.ifCond .ne 6, 3) := by decide +kernel
theorem dX4_put_8 : decode cX4_put 8 = .ok (.ldc 138, 2) := by decide +kernel
theorem dX4_put_10 : decode cX4_put 10 = .ok (.ireturn, 1) := by decide +kernel
theorem dX4_put_11 : decode cX4_put 11 = .ok (.iload_n 2, 1) := by decide +kernel
theorem dX4_put_12 : decode cX4_put 12 = .ok (.iconst 0, 1) := by decide +kernel
theorem dX4_put_13 : decode cX4_put 13 = .ok (.ldc 139, 2) := by decide +kernel
theorem dX4_put_15 : decode cX4_put 15 = .ok (.invokestatic 75, 3) := by decide +kernel
theorem dX4_put_18 : decode cX4_put 18 = .ok (.ifCond .ne 6, 3) := by decide +kernel
theorem dX4_put_21 : decode cX4_put 21 = .ok (.ldc 79, 2) := by decide +kernel
theorem dX4_put_23 : decode cX4_put 23 = .ok (.ireturn, 1) := by decide +kernel
theorem dX4_put_24 : decode cX4_put 24 = .ok (.aload_n 0, 1) := by decide +kernel
theorem dX4_put_25 : decode cX4_put 25 = .ok (.getfield 22, 3) := by decide +kernel
theorem dX4_put_28 : decode cX4_put 28 = .ok (.iconst 4, 1) := by decide +kernel
theorem dX4_put_29 : decode cX4_put 29 = .ok (.iload_n 1, 1) := by decide +kernel
theorem dX4_put_30 : decode cX4_put 30 = .ok (.imul, 1) := by decide +kernel
theorem dX4_put_31 : decode cX4_put 31 = .ok (.iaload, 1) := by decide +kernel
theorem dX4_put_32 : decode cX4_put 32 = .ok (.istore_n 3, 1) := by decide +kernel
theorem dX4_put_33 : decode cX4_put 33 = .ok (.aload_n 0, 1) := by decide +kernel
theorem dX4_put_34 : decode cX4_put 34 = .ok (.iload_n 1, 1) := by decide +kernel
theorem dX4_put_35 : decode cX4_put 35 = .ok (.iload_n 2, 1) := by decide +kernel
theorem dX4_put_36 : decode cX4_put 36 = .ok (.invokevirtual 118, 3) := by decide +kernel
theorem dX4_put_39 : decode cX4_put 39 = .ok (.iload_n 3, 1) := by decide +kernel
theorem dX4_put_40 : decode cX4_put 40 = .ok (.ireturn, 1) := by decide +kernel
set_option maxRecDepth 20000 in
theorem ggX4_wrong_X4_areBeside : GoodIn wsX4_wrong wsX4_areBeside := goodIn_r _ [8, 9, 10, 11, 12, 13, 7, 14, 15, 16, 17, 18, 19, 20, 21, 22, 23, 24, 25, 26, 27, 28, 29, 30, 31, 32, 33, 34, 35, 36, 37, 38, 39, 40, 41, 42, 43, 44, 45, 46, 47, 48, 49, 50, 51, 52, 53, 54, 55, 56, 57] (by decide +kernel) (by decide +kernel)
set_option maxRecDepth 20000 in
theorem gX4_wrong_X4_areBeside : GoodIn wsX4_wrong (wsV RX4 140 RX4 yX4_areBeside wsX4_areBeside) := goodIn_app (goodIn_of _ (by decide +kernel)) ggX4_wrong_X4_areBeside
set_option maxRecDepth 20000 in
theorem ggX4_wrong_X4_within : GoodIn wsX4_wrong wsX4_within := goodIn_r _ [18] (by decide +kernel) (by decide +kernel)
set_option maxRecDepth 20000 in
theorem gX4_wrong_X4_within : GoodIn wsX4_wrong (va_wsS RX4 75 yX4_within wsX4_within) := goodIn_app (goodIn_of _ (by decide +kernel)) ggX4_wrong_X4_within
theorem dX4_wrong_0 : decode cX4_wrong 0 = .ok (.aload_n 0, 1) := by decide +kernel
theorem dX4_wrong_1 : decode cX4_wrong 1 = .ok (.iload_n 1, 1) := by decide +kernel
theorem dX4_wrong_2 : decode cX4_wrong 2 = .ok (.iload_n 2, 1) := by decide +kernel
theorem dX4_wrong_3 : decode cX4_wrong 3 = .ok (.invokevirtual 140, 3) := by decide +kernel
theorem dX4_wrong_6 : decode cX4_wrong 6 = .ok (.ifCond .ne 6, 3) := by decide +kernel
theorem dX4_wrong_9 : decode cX4_wrong 9 = .ok (.ldc 138, 2) := by decide +kernel
theorem dX4_wrong_11 : decode cX4_wrong 11 = .ok (.ireturn, 1) := by decide +kernel
theorem dX4_wrong_12 : decode cX4_wrong 12 = .ok (.iload_n 3, 1) := by decide +kernel
theorem dX4_wrong_13 : decode cX4_wrong 13 = .ok (.bipush (-9), 2) := by decide +kernel
theorem dX4_wrong_15 : decode cX4_wrong 15 = .ok (.bipush 9, 2) := by decide +kernel
theorem dX4_wrong_17 : decode cX4_wrong 17 = .ok (.invokestatic 75, 3) := by decide +kernel
theorem dX4_wrong_20 : decode cX4_wrong 20 = .ok (.ifCond .ne 6, 3) := by decide +kernel
theorem dX4_wrong_23 : decode cX4_wrong 23 = .ok (.ldc 79, 2) := by decide +kernel
theorem dX4_wrong_25 : decode cX4_wrong 25 = .ok (.ireturn, 1) := by decide +kernel
theorem dX4_wrong_26 : decode cX4_wrong 26 = .ok (.aload_n 0, 1) := by decide +kernel
theorem dX4_wrong_27 : decode cX4_wrong 27 = .ok (.getfield 16, 3) := by decide +kernel
theorem dX4_wrong_30 : decode cX4_wrong 30 = .ok (.bipush 6, 2) := by decide +kernel
theorem dX4_wrong_32 : decode cX4_wrong 32 = .ok (.iload_n 1, 1) := by decide +kernel
theorem dX4_wrong_33 : decode cX4_wrong 33 = .ok (.imul, 1) := by decide +kernel
theorem dX4_wrong_34 : decode cX4_wrong 34 = .ok (.iload_n 2, 1) := by decide +kernel
theorem dX4_wrong_35 : decode cX4_wrong 35 = .ok (.iadd, 1) := by decide +kernel
theorem dX4_wrong_36 : decode cX4_wrong 36 = .ok (.iaload, 1) := by decide +kernel
theorem dX4_wrong_37 : decode cX4_wrong 37 = .ok (.istore 4, 2) := by decide +kernel
theorem dX4_wrong_39 : decode cX4_wrong 39 = .ok (.aload_n 0, 1) := by decide +kernel
theorem dX4_wrong_40 : decode cX4_wrong 40 = .ok (.getfield 16, 3) := by decide +kernel
theorem dX4_wrong_43 : decode cX4_wrong 43 = .ok (.bipush 6, 2) := by decide +kernel
theorem dX4_wrong_45 : decode cX4_wrong 45 = .ok (.iload_n 1, 1) := by decide +kernel
theorem dX4_wrong_46 : decode cX4_wrong 46 = .ok (.imul, 1) := by decide +kernel
theorem dX4_wrong_47 : decode cX4_wrong 47 = .ok (.iload_n 2, 1) := by decide +kernel
theorem dX4_wrong_48 : decode cX4_wrong 48 = .ok (.iadd, 1) := by decide +kernel
theorem dX4_wrong_49 : decode cX4_wrong 49 = .ok (.iload_n 3, 1) := by decide +kernel
theorem dX4_wrong_50 : decode cX4_wrong 50 = .ok (.iastore, 1) := by decide +kernel
theorem dX4_wrong_51 : decode cX4_wrong 51 = .ok (.iload 4, 2) := by decide +kernel
theorem dX4_wrong_53 : decode cX4_wrong 53 = .ok (.ireturn, 1) := by decide +kernel
set_option maxRecDepth 20000 in
theorem ggX4_delay_X4_areBeside : GoodIn wsX4_delay wsX4_areBeside := goodIn_r _ [8, 3, 9, 10, 11, 12, 7, 13, 14, 15, 16, 17, 18, 19, 20, 21, 22, 23, 24, 25, 26, 27, 28, 29, 30, 31, 32, 33, 34, 35, 36, 37, 38, 39, 40, 41, 42, 43, 44, 45, 46, 47, 48, 49, 50, 51, 52, 53, 54, 55, 56] (by decide +kernel) (by decide +kernel)
set_option maxRecDepth 20000 in
theorem gX4_delay_X4_areBeside : GoodIn wsX4_delay (wsV RX4 140 RX4 yX4_areBeside wsX4_areBeside) := goodIn_app (goodIn_of _ (by decide +kernel)) ggX4_delay_X4_areBeside
set_option maxRecDepth 20000 in
theorem ggX4_delay_X4_within : GoodIn wsX4_delay wsX4_within := goodIn_r _ [17] (by decide +kernel) (by decide +kernel)
set_option maxRecDepth 20000 in
theorem gX4_delay_X4_within : GoodIn wsX4_delay (va_wsS RX4 75 yX4_within wsX4_within) := goodIn_app (goodIn_of _ (by decide +kernel)) ggX4_delay_X4_within
theorem dX4_delay_0 : decode cX4_delay 0 = .ok (.aload_n 0, 1) := by decide +kernel
theorem dX4_delay_1 : decode cX4_delay 1 = .ok (.iload_n 1, 1) := by decide +kernel
theorem dX4_delay_2 : decode cX4_delay 2 = .ok (.iload_n 2, 1) := by decide +kernel
theorem dX4_delay_3 : decode cX4_delay 3 = .ok (.invokevirtual 140, 3) := by decide +kernel
theorem dX4_delay_6 : decode cX4_delay 6 = .ok (.ifCond .ne 6, 3) := by decide +kernel
theorem dX4_delay_9 : decode cX4_delay 9 = .ok (.ldc 138, 2) := by decide +kernel
theorem dX4_delay_11 : decode cX4_delay 11 = .ok (.ireturn, 1) := by decide +kernel
theorem dX4_delay_12 : decode cX4_delay 12 = .ok (.iload_n 3, 1) := by decide +kernel
theorem dX4_delay_13 : decode cX4_delay 13 = .ok (.iconst 0, 1) := by decide +kernel
theorem dX4_delay_14 : decode cX4_delay 14 = .ok (.iconst 3, 1) := by decide +kernel
theorem dX4_delay_15 : decode cX4_delay 15 = .ok (.invokestatic 75, 3) := by decide +kernel
theorem dX4_delay_18 : decode cX4_delay 18 = .ok (.ifCond .ne 6, 3) := by decide +kernel
theorem dX4_delay_21 : decode cX4_delay 21 = .ok (.ldc 79, 2) := by decide +kernel
theorem dX4_delay_23 : decode cX4_delay 23 = .ok (.ireturn, 1) := by decide +kernel
theorem dX4_delay_24 : decode cX4_delay 24 = .ok (.aload_n 0, 1) := by decide +kernel
theorem dX4_delay_25 : decode cX4_delay 25 = .ok (.getfield 13, 3) := by decide +kernel
theorem dX4_delay_28 : decode cX4_delay 28 = .ok (.bipush 6, 2) := by decide +kernel
theorem dX4_delay_30 : decode cX4_delay 30 = .ok (.iload_n 1, 1) := by decide +kernel
theorem dX4_delay_31 : decode cX4_delay 31 = .ok (.imul, 1) := by decide +kernel
theorem dX4_delay_32 : decode cX4_delay 32 = .ok (.iload_n 2, 1) := by decide +kernel
theorem dX4_delay_33 : decode cX4_delay 33 = .ok (.iadd, 1) := by decide +kernel
theorem dX4_delay_34 : decode cX4_delay 34 = .ok (.iaload, 1) := by decide +kernel
theorem dX4_delay_35 : decode cX4_delay 35 = .ok (.istore 4, 2) := by decide +kernel
theorem dX4_delay_37 : decode cX4_delay 37 = .ok (.aload_n 0, 1) := by decide +kernel
theorem dX4_delay_38 : decode cX4_delay 38 = .ok (.getfield 13, 3) := by decide +kernel
theorem dX4_delay_41 : decode cX4_delay 41 = .ok (.bipush 6, 2) := by decide +kernel
theorem dX4_delay_43 : decode cX4_delay 43 = .ok (.iload_n 1, 1) := by decide +kernel
theorem dX4_delay_44 : decode cX4_delay 44 = .ok (.imul, 1) := by decide +kernel
theorem dX4_delay_45 : decode cX4_delay 45 = .ok (.iload_n 2, 1) := by decide +kernel
theorem dX4_delay_46 : decode cX4_delay 46 = .ok (.iadd, 1) := by decide +kernel
theorem dX4_delay_47 : decode cX4_delay 47 = .ok (.iload_n 3, 1) := by decide +kernel
theorem dX4_delay_48 : decode cX4_delay 48 = .ok (.iastore, 1) := by decide +kernel
theorem dX4_delay_49 : decode cX4_delay 49 = .ok (.aload_n 0, 1) := by decide +kernel
theorem dX4_delay_50 : decode cX4_delay 50 = .ok (.getfield 13, 3) := by decide +kernel
theorem dX4_delay_53 : decode cX4_delay 53 = .ok (.bipush 6, 2) := by decide +kernel
theorem dX4_delay_55 : decode cX4_delay 55 = .ok (.iload_n 2, 1) := by decide +kernel
theorem dX4_delay_56 : decode cX4_delay 56 = .ok (.imul, 1) := by decide +kernel
theorem dX4_delay_57 : decode cX4_delay 57 = .ok (.iload_n 1, 1) := by decide +kernel
theorem dX4_delay_58 : decode cX4_delay 58 = .ok (.iadd, 1) := by decide +kernel
theorem dX4_delay_59 : decode cX4_delay 59 = .ok (.iload_n 3, 1) := by decide +kernel
theorem dX4_delay_60 : decode cX4_delay 60 = .ok (.iastore, 1) := by decide +kernel
theorem dX4_delay_61 : decode cX4_delay 61 = .ok (.iload 4, 2) := by decide +kernel
theorem dX4_delay_63 : decode cX4_delay 63 = .ok (.ireturn, 1) := by decide +kernel
theorem dX4_guess_0 : decode cX4_guess 0 = .ok (.aload_n 0, 1) := by decide +kernel
theorem dX4_guess_1 : decode cX4_guess 1 = .ok (.getfield 13, 3) := by decide +kernel
theorem dX4_guess_4 : decode cX4_guess 4 = .ok (.bipush 6, 2) := by decide +kernel
theorem dX4_guess_6 : decode cX4_guess 6 = .ok (.iload_n 1, 1) := by decide +kernel
theorem dX4_guess_7 : decode cX4_guess 7 = .ok (.imul, 1) := by decide +kernel
theorem dX4_guess_8 : decode cX4_guess 8 = .ok (.iload_n 2, 1) := by decide +kernel
theorem dX4_guess_9 : decode cX4_guess 9 = .ok (.iadd, 1) := by decide +kernel
theorem dX4_guess_10 : decode cX4_guess 10 = .ok (.iaload, 1) := by decide +kernel
theorem dX4_guess_11 : decode cX4_guess 11 = .ok (.istore_n 3, 1) := by decide +kernel
theorem dX4_guess_12 : decode cX4_guess 12 = .ok (.aload_n 0, 1) := by decide +kernel
theorem dX4_guess_13 : decode cX4_guess 13 = .ok (.getfield 22, 3) := by decide +kernel
theorem dX4_guess_16 : decode cX4_guess 16 = .ok (.iconst 4, 1) := by decide +kernel
theorem dX4_guess_17 : decode cX4_guess 17 = .ok (.iload_n 2, 1) := by decide +kernel
theorem dX4_guess_18 : decode cX4_guess 18 = .ok (.imul, 1) := by decide +kernel
theorem dX4_guess_19 : decode cX4_guess 19 = .ok (.iload_n 3, 1) := by decide +kernel
theorem dX4_guess_20 : decode cX4_guess 20 = .ok (.iadd, 1) := by decide +kernel
theorem dX4_guess_21 : decode cX4_guess 21 = .ok (.iaload, 1) := by decide +kernel
theorem dX4_guess_22 : decode cX4_guess 22 = .ok (.bipush 100, 2) := by decide +kernel
theorem dX4_guess_24 : decode cX4_guess 24 = .ok (.iload_n 3, 1) := by decide +kernel
theorem dX4_guess_25 : decode cX4_guess 25 = .ok (.imul, 1) := by decide +kernel
theorem dX4_guess_26 : decode cX4_guess 26 = .ok (.iadd, 1) := by decide +kernel
theorem dX4_guess_27 : decode cX4_guess 27 = .ok (.aload_n 0, 1) := by decide +kernel
theorem dX4_guess_28 : decode cX4_guess 28 = .ok (.getfield 16, 3) := by decide +kernel
theorem dX4_guess_31 : decode cX4_guess 31 = .ok (.bipush 6, 2) := by decide +kernel
theorem dX4_guess_33 : decode cX4_guess 33 = .ok (.iload_n 1, 1) := by decide +kernel
theorem dX4_guess_34 : decode cX4_guess 34 = .ok (.imul, 1) := by decide +kernel
theorem dX4_guess_35 : decode cX4_guess 35 = .ok (.iload_n 2, 1) := by decide +kernel
theorem dX4_guess_36 : decode cX4_guess 36 = .ok (.iadd, 1) := by decide +kernel
theorem dX4_guess_37 : decode cX4_guess 37 = .ok (.iaload, 1) := by decide +kernel
theorem dX4_guess_38 : decode cX4_guess 38 = .ok (.iadd, 1) := by decide +kernel
theorem dX4_guess_39 : decode cX4_guess 39 = .ok (.ireturn, 1) := by decide +kernel
set_option maxRecDepth 20000 in
theorem ggX4_off_X4_areBeside : GoodIn wsX4_off wsX4_areBeside := goodIn_r _ [8, 9, 1, 10, 11, 12, 7, 13, 2, 14, 15, 16, 22, 23, 24, 25, 26, 27, 28, 29, 30, 31, 32, 33, 34, 35, 36, 37, 38, 39, 40, 41, 42, 43, 44, 45, 46, 47, 48, 49, 50, 51, 52, 53, 54, 55, 56, 57, 58, 59, 60] (by decide +kernel) (by decide +kernel)
set_option maxRecDepth 20000 in
theorem gX4_off_X4_areBeside : GoodIn wsX4_off (wsV RX4 140 RX4 yX4_areBeside wsX4_areBeside) := goodIn_app (goodIn_of _ (by decide +kernel)) ggX4_off_X4_areBeside
set_option maxRecDepth 20000 in
theorem ggX4_off_X4_guess : GoodIn wsX4_off wsX4_guess := goodIn_r _ [20, 9, 3, 21, 22, 23, 24, 25, 26, 27, 28, 29, 30, 31, 32, 33, 34, 35, 36, 37, 38, 39, 40, 41, 42, 43, 44, 45, 46, 47, 48, 49, 50, 51, 52, 53, 54, 55, 56, 57, 58, 59, 60] (by decide +kernel) (by decide +kernel)
set_option maxRecDepth 20000 in
theorem gX4_off_X4_guess : GoodIn wsX4_off (wsV RX4 144 RX4 yX4_guess wsX4_guess) := goodIn_app (goodIn_of _ (by decide +kernel)) ggX4_off_X4_guess
theorem dX4_off_0 : decode cX4_off 0 = .ok (.ldc 96, 2) := by decide +kernel
theorem dX4_off_2 : decode cX4_off 2 = .ok (.istore_n 3, 1) := by decide +kernel
theorem dX4_off_3 : decode cX4_off 3 = .ok (.iconst 0, 1) := by decide +kernel
theorem dX4_off_4 : decode cX4_off 4 = .ok (.istore 4, 2) := by decide +kernel
theorem dX4_off_6 : decode cX4_off 6 = .ok (.iload 4, 2) := by decide +kernel
theorem dX4_off_8 : decode cX4_off 8 = .ok (.aload_n 0, 1) := by decide +kernel
theorem dX4_off_9 : decode cX4_off 9 = .ok (.getfield 112, 3) := by decide +kernel
theorem dX4_off_12 : decode cX4_off 12 = .ok (.if_icmp .ge 70, 3) := by decide +kernel
theorem dX4_off_15 : decode cX4_off 15 = .ok (.aload_n 0, 1) := by decide +kernel
theorem dX4_off_16 : decode cX4_off 16 = .ok (.iload_n 1, 1) := by decide +kernel
theorem dX4_off_17 : decode cX4_off 17 = .ok (.iload 4, 2) := by decide +kernel
theorem dX4_off_19 : decode cX4_off 19 = .ok (.invokevirtual 140, 3) := by decide +kernel
theorem dX4_off_22 : decode cX4_off 22 = .ok (.ifCond .eq 54, 3) := by decide +kernel
theorem dX4_off_25 : decode cX4_off 25 = .ok (.aload_n 0, 1) := by decide +kernel
theorem dX4_off_26 : decode cX4_off 26 = .ok (.iload_n 1, 1) := by decide +kernel
theorem dX4_off_27 : decode cX4_off 27 = .ok (.iload 4, 2) := by decide +kernel
theorem dX4_off_29 : decode cX4_off 29 = .ok (.invokevirtual 144, 3) := by decide +kernel
theorem dX4_off_32 : decode cX4_off 32 = .ok (.aload_n 0, 1) := by decide +kernel
theorem dX4_off_33 : decode cX4_off 33 = .ok (.getfield 22, 3) := by decide +kernel
theorem dX4_off_36 : decode cX4_off 36 = .ok (.iconst 4, 1) := by decide +kernel
theorem dX4_off_37 : decode cX4_off 37 = .ok (.iload_n 1, 1) := by decide +kernel
theorem dX4_off_38 : decode cX4_off 38 = .ok (.imul, 1) := by decide +kernel
theorem dX4_off_39 : decode cX4_off 39 = .ok (.iaload, 1) := by decide +kernel
theorem dX4_off_40 : decode cX4_off 40 = .ok (.isub, 1) := by decide +kernel
theorem dX4_off_41 : decode cX4_off 41 = .ok (.istore 5, 2) := by decide +kernel
theorem dX4_off_43 : decode cX4_off 43 = .ok (.iload_n 2, 1) := by decide +kernel
theorem dX4_off_44 : decode cX4_off 44 = .ok (.ifCond .eq 8, 3) := by decide +kernel
theorem dX4_off_47 : decode cX4_off 47 = .ok (.iload 5, 2) := by decide +kernel
theorem dX4_off_49 : decode cX4_off 49 = .ok (.goto 6, 3) := by decide +kernel
theorem dX4_off_52 : decode cX4_off 52 = .ok (.iload 5, 2) := by decide +kernel
theorem dX4_off_54 : decode cX4_off 54 = .ok (.ineg, 1) := by decide +kernel
theorem dX4_off_55 : decode cX4_off 55 = .ok (.istore 5, 2) := by decide +kernel
theorem dX4_off_57 : decode cX4_off 57 = .ok (.iload_n 3, 1) := by decide +kernel
theorem dX4_off_58 : decode cX4_off 58 = .ok (.ldc 96, 2) := by decide +kernel
theorem dX4_off_60 : decode cX4_off 60 = .ok (.if_icmp .eq 9, 3) := by decide +kernel
theorem dX4_off_63 : decode cX4_off 63 = .ok (.iload 5, 2) := by decide +kernel
theorem dX4_off_65 : decode cX4_off 65 = .ok (.iload_n 3, 1) := by decide +kernel
theorem dX4_off_66 : decode cX4_off 66 = .ok (.if_icmp .le 8, 3) := by decide +kernel
theorem dX4_off_69 : decode cX4_off 69 = .ok (.iload 5, 2) := by decide +kernel
theorem dX4_off_71 : decode cX4_off 71 = .ok (.goto 4, 3) := by decide +kernel
theorem dX4_off_74 : decode cX4_off 74 = .ok (.iload_n 3, 1) := by decide +kernel
theorem dX4_off_75 : decode cX4_off 75 = .ok (.istore_n 3, 1) := by decide +kernel
theorem dX4_off_76 : decode cX4_off 76 = .ok (.iinc 4 1, 3) := by decide +kernel
theorem dX4_off_79 : decode cX4_off 79 = .ok (.goto (-73), 3) := by decide +kernel
theorem dX4_off_82 : decode cX4_off 82 = .ok (.iload_n 3, 1) := by decide +kernel
theorem dX4_off_83 : decode cX4_off 83 = .ok (.ireturn, 1) := by decide +kernel
theorem dX4_firstOf_0 : decode cX4_firstOf 0 = .ok (.iload_n 1, 1) := by decide +kernel
theorem dX4_firstOf_1 : decode cX4_firstOf 1 = .ok (.iload_n 2, 1) := by decide +kernel
theorem dX4_firstOf_2 : decode cX4_firstOf 2 = .ok (.aload_n 0, 1) := by decide +kernel
theorem dX4_firstOf_3 : decode cX4_firstOf 3 = .ok (.getfield 32, 3) := by decide +kernel
theorem dX4_firstOf_6 : decode cX4_firstOf 6 = .ok (.imul, 1) := by decide +kernel
theorem dX4_firstOf_7 : decode cX4_firstOf 7 = .ok (.if_icmp .gt 7, 3) := by decide +kernel
theorem dX4_firstOf_10 : decode cX4_firstOf 10 = .ok (.iload_n 2, 1) := by decide +kernel
theorem dX4_firstOf_11 : decode cX4_firstOf 11 = .ok (.goto 16, 3) := by decide +kernel
