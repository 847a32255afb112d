theorem dX0_init_0 : decode cX0_init 0 = .ok (.aload_n 0, 1) := by decide +kernel
theorem dX0_init_1 : decode cX0_init 1 = .ok (.invokespecial 3, 3) := by decide +kernel
theorem dX0_init_4 : decode cX0_init 4 = .ok (.aload_n 0, 1) := by decide +kernel
theorem dX0_init_5 : decode cX0_init 5 = .ok (.bipush 24, 2) := by decide +kernel
theorem dX0_init_7 : decode cX0_init 7 = .ok (.newarray .int, 2) := by decide +kernel
theorem dX0_init_9 : decode cX0_init 9 = .ok (.putfield 9, 3) := by decide +kernel
theorem dX0_init_12 : decode cX0_init 12 = .ok (.aload_n 0, 1) := by decide +kernel
theorem dX0_init_13 : decode cX0_init 13 = .ok (.bipush 6, 2) := by decide +kernel
theorem dX0_init_15 : decode cX0_init 15 = .ok (.newarray .int, 2) := by decide +kernel
theorem dX0_init_17 : decode cX0_init 17 = .ok (.putfield 15, 3) := by decide +kernel
theorem dX0_init_20 : decode cX0_init 20 = .ok (.aload_n 0, 1) := by decide +kernel
theorem dX0_init_21 : decode cX0_init 21 = .ok (.bipush 6, 2) := by decide +kernel
theorem dX0_init_23 : decode cX0_init 23 = .ok (.newarray .int, 2) := by decide +kernel
theorem dX0_init_25 : decode cX0_init 25 = .ok (.putfield 18, 3) := by decide +kernel
theorem dX0_init_28 : decode cX0_init 28 = .ok (.aload_n 0, 1) := by decide +kernel
theorem dX0_init_29 : decode cX0_init 29 = .ok (.bipush 6, 2) := by decide +kernel
theorem dX0_init_31 : decode cX0_init 31 = .ok (.newarray .int, 2) := by decide +kernel
theorem dX0_init_33 : decode cX0_init 33 = .ok (.putfield 21, 3) := by decide +kernel
theorem dX0_init_36 : decode cX0_init 36 = .ok (.aload_n 0, 1) := by decide +kernel
theorem dX0_init_37 : decode cX0_init 37 = .ok (.bipush 36, 2) := by decide +kernel
theorem dX0_init_39 : decode cX0_init 39 = .ok (.newarray .int, 2) := by decide +kernel
theorem dX0_init_41 : decode cX0_init 41 = .ok (.putfield 24, 3) := by decide +kernel
theorem dX0_init_44 : decode cX0_init 44 = .ok (.aload_n 0, 1) := by decide +kernel
theorem dX0_init_45 : decode cX0_init 45 = .ok (.bipush 36, 2) := by decide +kernel
theorem dX0_init_47 : decode cX0_init 47 = .ok (.newarray .int, 2) := by decide +kernel
theorem dX0_init_49 : decode cX0_init 49 = .ok (.putfield 27, 3) := by decide +kernel
theorem dX0_init_52 : decode cX0_init 52 = .ok (.aload_n 0, 1) := by decide +kernel
theorem dX0_init_53 : decode cX0_init 53 = .ok (.iconst 0, 1) := by decide +kernel
theorem dX0_init_54 : decode cX0_init 54 = .ok (.putfield 30, 3) := by decide +kernel
theorem dX0_init_57 : decode cX0_init 57 = .ok (.aload_n 0, 1) := by decide +kernel
theorem dX0_init_58 : decode cX0_init 58 = .ok (.iconst 0, 1) := by decide +kernel
theorem dX0_init_59 : decode cX0_init 59 = .ok (.putfield 34, 3) := by decide +kernel
theorem dX0_init_62 : decode cX0_init 62 = .ok (.aload_n 0, 1) := by decide +kernel
theorem dX0_init_63 : decode cX0_init 63 = .ok (.ldc 37, 2) := by decide +kernel
theorem dX0_init_65 : decode cX0_init 65 = .ok (.putfield 38, 3) := by decide +kernel
theorem dX0_init_68 : decode cX0_init 68 = .ok (.aload_n 0, 1) := by decide +kernel
theorem dX0_init_69 : decode cX0_init 69 = .ok (.ldc 37, 2) := by decide +kernel
theorem dX0_init_71 : decode cX0_init 71 = .ok (.putfield 41, 3) := by decide +kernel
theorem dX0_init_74 : decode cX0_init 74 = .ok (.aload_n 0, 1) := by decide +kernel
theorem dX0_init_75 : decode cX0_init 75 = .ok (.aload_n 1, 1) := by decide +kernel
theorem dX0_init_76 : decode cX0_init 76 = .ok (.putfield 44, 3) := by decide +kernel
theorem dX0_init_79 : decode cX0_init 79 = .ok (.return_, 1) := by decide +kernel
set_option maxRecDepth 20000 in
theorem ggX0_startFrom_J7_fill_53178 : GoodIn wsX0_startFrom wsJ7_fill_53178 := goodIn_r _ [12] (by decide +kernel) (by decide +kernel)
set_option maxRecDepth 20000 in
theorem gX0_startFrom_J7_fill_53178 : GoodIn wsX0_startFrom (va_wsS RX0 48 yJ7_fill_53178 wsJ7_fill_53178) := goodIn_app (goodIn_of _ (by decide +kernel)) ggX0_startFrom_J7_fill_53178
set_option maxRecDepth 20000 in
theorem ggX0_startFrom_X2_placeOfLink : GoodIn wsX0_startFrom wsX2_placeOfLink := goodIn_r _ [16] (by decide +kernel) (by decide +kernel)
set_option maxRecDepth 20000 in
theorem gX0_startFrom_X2_placeOfLink : GoodIn wsX0_startFrom (va_wsS RX0 59 yX2_placeOfLink wsX2_placeOfLink) := goodIn_app (goodIn_of _ (by decide +kernel)) ggX0_startFrom_X2_placeOfLink
set_option maxRecDepth 20000 in
theorem ggX0_startFrom_X2_digitAt : GoodIn wsX0_startFrom wsX2_digitAt := goodIn_r _ [20, 21, 22, 23, 15, 24, 25, 26, 27, 64, 65] (by decide +kernel) (by decide +kernel)
set_option maxRecDepth 20000 in
theorem gX0_startFrom_X2_digitAt : GoodIn wsX0_startFrom (wsV RX0 65 RX2 yX2_digitAt wsX2_digitAt) := goodIn_app (goodIn_of _ (by decide +kernel)) ggX0_startFrom_X2_digitAt
set_option maxRecDepth 20000 in
theorem ggX0_startFrom_X0_tellDelay : GoodIn wsX0_startFrom wsX0_tellDelay := goodIn_r _ [32, 6, 33, 34, 35, 36, 37, 38, 39, 40, 41, 42, 43, 44, 45, 46, 47, 48, 49, 50, 51, 52, 53, 54, 55, 56, 57, 58, 59, 60, 61, 62, 63] (by decide +kernel) (by decide +kernel)
set_option maxRecDepth 20000 in
theorem gX0_startFrom_X0_tellDelay : GoodIn wsX0_startFrom (wsV RX0 68 RX0 yX0_tellDelay wsX0_tellDelay) := goodIn_app (goodIn_of _ (by decide +kernel)) ggX0_startFrom_X0_tellDelay
theorem dX0_startFrom_0 : decode cX0_startFrom 0 = .ok (.aload_n 0, 1) := by decide +kernel
theorem dX0_startFrom_1 : decode cX0_startFrom 1 = .ok (.getfield 9, 3) := by decide +kernel
theorem dX0_startFrom_4 : decode cX0_startFrom 4 = .ok (.iconst 0, 1) := by decide +kernel
theorem dX0_startFrom_5 : decode cX0_startFrom 5 = .ok (.invokestatic 48, 3) := by decide +kernel
theorem dX0_startFrom_8 : decode cX0_startFrom 8 = .ok (.aload_n 0, 1) := by decide +kernel
theorem dX0_startFrom_9 : decode cX0_startFrom 9 = .ok (.getfield 15, 3) := by decide +kernel
theorem dX0_startFrom_12 : decode cX0_startFrom 12 = .ok (.bipush 100, 2) := by decide +kernel
theorem dX0_startFrom_14 : decode cX0_startFrom 14 = .ok (.invokestatic 48, 3) := by decide +kernel
theorem dX0_startFrom_17 : decode cX0_startFrom 17 = .ok (.aload_n 0, 1) := by decide +kernel
theorem dX0_startFrom_18 : decode cX0_startFrom 18 = .ok (.getfield 18, 3) := by decide +kernel
theorem dX0_startFrom_21 : decode cX0_startFrom 21 = .ok (.iconst 0, 1) := by decide +kernel
theorem dX0_startFrom_22 : decode cX0_startFrom 22 = .ok (.invokestatic 48, 3) := by decide +kernel
theorem dX0_startFrom_25 : decode cX0_startFrom 25 = .ok (.aload_n 0, 1) := by decide +kernel
theorem dX0_startFrom_26 : decode cX0_startFrom 26 = .ok (.getfield 21, 3) := by decide +kernel
theorem dX0_startFrom_29 : decode cX0_startFrom 29 = .ok (.iconst 0, 1) := by decide +kernel
theorem dX0_startFrom_30 : decode cX0_startFrom 30 = .ok (.invokestatic 48, 3) := by decide +kernel
theorem dX0_startFrom_33 : decode cX0_startFrom 33 = .ok (.aload_n 0, 1) := by decide +kernel
theorem dX0_startFrom_34 : decode cX0_startFrom 34 = .ok (.getfield 27, 3) := by decide +kernel
theorem dX0_startFrom_37 : decode cX0_startFrom 37 = .ok (.iconst 0, 1) := by decide +kernel
theorem dX0_startFrom_38 : decode cX0_startFrom 38 = .ok (.invokestatic 48, 3) := by decide +kernel
theorem dX0_startFrom_41 : decode cX0_startFrom 41 = .ok (.iconst 0, 1) := by decide +kernel
theorem dX0_startFrom_42 : decode cX0_startFrom 42 = .ok (.istore_n 2, 1) := by decide +kernel
theorem dX0_startFrom_43 : decode cX0_startFrom 43 = .ok (.iload_n 2, 1) := by decide +kernel
theorem dX0_startFrom_44 : decode cX0_startFrom 44 = .ok (.aload_n 0, 1) := by decide +kernel
theorem dX0_startFrom_45 : decode cX0_startFrom 45 = .ok (.getfield 44, 3) := by decide +kernel
theorem dX0_startFrom_48 : decode cX0_startFrom 48 = .ok (.getfield 54, 3) := by decide +kernel
theorem dX0_startFrom_51 : decode cX0_startFrom 51 = .ok (.if_icmp .ge 37, 3) := by decide +kernel
theorem dX0_startFrom_54 : decode cX0_startFrom 54 = .ok (.iload_n 2, 1) := by decide +kernel
theorem dX0_startFrom_55 : decode cX0_startFrom 55 = .ok (.invokestatic 59, 3) := by decide +kernel
theorem dX0_startFrom_58 : decode cX0_startFrom 58 = .ok (.istore_n 3, 1) := by decide +kernel
theorem dX0_startFrom_59 : decode cX0_startFrom 59 = .ok (.aload_n 0, 1) := by decide +kernel
theorem dX0_startFrom_60 : decode cX0_startFrom 60 = .ok (.aload_n 1, 1) := by decide +kernel
theorem dX0_startFrom_61 : decode cX0_startFrom 61 = .ok (.iload_n 3, 1) := by decide +kernel
theorem dX0_startFrom_62 : decode cX0_startFrom 62 = .ok (.invokevirtual 65, 3) := by decide +kernel
theorem dX0_startFrom_65 : decode cX0_startFrom 65 = .ok (.aload_n 1, 1) := by decide +kernel
theorem dX0_startFrom_66 : decode cX0_startFrom 66 = .ok (.iload_n 3, 1) := by decide +kernel
theorem dX0_startFrom_67 : decode cX0_startFrom 67 = .ok (.iconst 1, 1) := by decide +kernel
theorem dX0_startFrom_68 : decode cX0_startFrom 68 = .ok (.iadd, 1) := by decide +kernel
theorem dX0_startFrom_69 : decode cX0_startFrom 69 = .ok (.invokevirtual 65, 3) := by decide +kernel
theorem dX0_startFrom_72 : decode cX0_startFrom 72 = .ok (.aload_n 1, 1) := by decide +kernel
theorem dX0_startFrom_73 : decode cX0_startFrom 73 = .ok (.iload_n 3, 1) := by decide +kernel
theorem dX0_startFrom_74 : decode cX0_startFrom 74 = .ok (.iconst 2, 1) := by decide +kernel
theorem dX0_startFrom_75 : decode cX0_startFrom 75 = .ok (.iadd, 1) := by decide +kernel
theorem dX0_startFrom_76 : decode cX0_startFrom 76 = .ok (.invokevirtual 65, 3) := by decide +kernel
theorem dX0_startFrom_79 : decode cX0_startFrom 79 = .ok (.invokevirtual 68, 3) := by decide +kernel
theorem dX0_startFrom_82 : decode cX0_startFrom 82 = .ok (.iinc 2 1, 3) := by decide +kernel
theorem dX0_startFrom_85 : decode cX0_startFrom 85 = .ok (.goto (-42), 3) := by decide +kernel
theorem dX0_startFrom_88 : decode cX0_startFrom 88 = .ok (.aload_n 0, 1) := by decide +kernel
theorem dX0_startFrom_89 : decode cX0_startFrom 89 = .ok (.iconst 0, 1) := by decide +kernel
theorem dX0_startFrom_90 : decode cX0_startFrom 90 = .ok (.putfield 30, 3) := by decide +kernel
theorem dX0_startFrom_93 : decode cX0_startFrom 93 = .ok (.aload_n 0, 1) := by decide +kernel
theorem dX0_startFrom_94 : decode cX0_startFrom 94 = .ok (.iconst 0, 1) := by decide +kernel
theorem dX0_startFrom_95 : decode cX0_startFrom 95 = .ok (.putfield 34, 3) := by decide +kernel
theorem dX0_startFrom_98 : decode cX0_startFrom 98 = .ok (.return_, 1) := by decide +kernel
set_option maxRecDepth 20000 in
theorem ggX0_copyAll_X0_copyMotion : GoodIn wsX0_copyAll wsX0_copyMotion := goodIn_r _ [15, 16, 2, 3, 4, 5, 17, 18, 19, 20, 21, 22, 23, 24, 25, 26, 27, 28] (by decide +kernel) (by decide +kernel)
set_option maxRecDepth 20000 in
theorem gX0_copyAll_X0_copyMotion : GoodIn wsX0_copyAll (wsV RX0 72 RX0 yX0_copyMotion wsX0_copyMotion) := goodIn_app (goodIn_of _ (by decide +kernel)) ggX0_copyAll_X0_copyMotion
theorem dX0_copyAll_0 : decode cX0_copyAll 0 = .ok (.aload_n 0, 1) := by decide +kernel
theorem dX0_copyAll_1 : decode cX0_copyAll 1 = .ok (.aload_n 1, 1) := by decide +kernel
theorem dX0_copyAll_2 : decode cX0_copyAll 2 = .ok (.invokevirtual 72, 3) := by decide +kernel
theorem dX0_copyAll_5 : decode cX0_copyAll 5 = .ok (.aload_n 1, 1) := by decide +kernel
theorem dX0_copyAll_6 : decode cX0_copyAll 6 = .ok (.getfield 15, 3) := by decide +kernel
theorem dX0_copyAll_9 : decode cX0_copyAll 9 = .ok (.iconst 0, 1) := by decide +kernel
theorem dX0_copyAll_10 : decode cX0_copyAll 10 = .ok (.aload_n 0, 1) := by decide +kernel
theorem dX0_copyAll_11 : decode cX0_copyAll 11 = .ok (.getfield 15, 3) := by decide +kernel
theorem dX0_copyAll_14 : decode cX0_copyAll 14 = .ok (.iconst 0, 1) := by decide +kernel
theorem dX0_copyAll_15 : decode cX0_copyAll 15 = .ok (.aload_n 0, 1) := by decide +kernel
theorem dX0_copyAll_16 : decode cX0_copyAll 16 = .ok (.getfield 15, 3) := by decide +kernel
theorem dX0_copyAll_19 : decode cX0_copyAll 19 = .ok (.arraylength, 1) := by decide +kernel
theorem dX0_copyAll_20 : decode cX0_copyAll 20 = .ok (.invokestatic 76, 3) := by decide +kernel
theorem dX0_copyAll_23 : decode cX0_copyAll 23 = .ok (.aload_n 1, 1) := by decide +kernel
theorem dX0_copyAll_24 : decode cX0_copyAll 24 = .ok (.getfield 21, 3) := by decide +kernel
theorem dX0_copyAll_27 : decode cX0_copyAll 27 = .ok (.iconst 0, 1) := by decide +kernel
theorem dX0_copyAll_28 : decode cX0_copyAll 28 = .ok (.aload_n 0, 1) := by decide +kernel
theorem dX0_copyAll_29 : decode cX0_copyAll 29 = .ok (.getfield 21, 3) := by decide +kernel
theorem dX0_copyAll_32 : decode cX0_copyAll 32 = .ok (.iconst 0, 1) := by decide +kernel
theorem dX0_copyAll_33 : decode cX0_copyAll 33 = .ok (.aload_n 0, 1) := by decide +kernel
theorem dX0_copyAll_34 : decode cX0_copyAll 34 = .ok (.getfield 21, 3) := by decide +kernel
theorem dX0_copyAll_37 : decode cX0_copyAll 37 = .ok (.arraylength, 1) := by decide +kernel
theorem dX0_copyAll_38 : decode cX0_copyAll 38 = .ok (.invokestatic 76, 3) := by decide +kernel
theorem dX0_copyAll_41 : decode cX0_copyAll 41 = .ok (.aload_n 1, 1) := by decide +kernel
theorem dX0_copyAll_42 : decode cX0_copyAll 42 = .ok (.getfield 24, 3) := by decide +kernel
theorem dX0_copyAll_45 : decode cX0_copyAll 45 = .ok (.iconst 0, 1) := by decide +kernel
theorem dX0_copyAll_46 : decode cX0_copyAll 46 = .ok (.aload_n 0, 1) := by decide +kernel
theorem dX0_copyAll_47 : decode cX0_copyAll 47 = .ok (.getfield 24, 3) := by decide +kernel
theorem dX0_copyAll_50 : decode cX0_copyAll 50 = .ok (.iconst 0, 1) := by decide +kernel
theorem dX0_copyAll_51 : decode cX0_copyAll 51 = .ok (.aload_n 0, 1) := by decide +kernel
theorem dX0_copyAll_52 : decode cX0_copyAll 52 = .ok (.getfield 24, 3) := by decide +kernel
theorem dX0_copyAll_55 : decode cX0_copyAll 55 = .ok (.arraylength, 1) := by decide +kernel
theorem dX0_copyAll_56 : decode cX0_copyAll 56 = .ok (.invokestatic 76, 3) := by decide +kernel
theorem dX0_copyAll_59 : decode cX0_copyAll 59 = .ok (.aload_n 1, 1) := by decide +kernel
theorem dX0_copyAll_60 : decode cX0_copyAll 60 = .ok (.getfield 27, 3) := by decide +kernel
theorem dX0_copyAll_63 : decode cX0_copyAll 63 = .ok (.iconst 0, 1) := by decide +kernel
theorem dX0_copyAll_64 : decode cX0_copyAll 64 = .ok (.aload_n 0, 1) := by decide +kernel
theorem dX0_copyAll_65 : decode cX0_copyAll 65 = .ok (.getfield 27, 3) := by decide +kernel
theorem dX0_copyAll_68 : decode cX0_copyAll 68 = .ok (.iconst 0, 1) := by decide +kernel
theorem dX0_copyAll_69 : decode cX0_copyAll 69 = .ok (.aload_n 0, 1) := by decide +kernel
theorem dX0_copyAll_70 : decode cX0_copyAll 70 = .ok (.getfield 27, 3) := by decide +kernel
theorem dX0_copyAll_73 : decode cX0_copyAll 73 = .ok (.arraylength, 1) := by decide +kernel
theorem dX0_copyAll_74 : decode cX0_copyAll 74 = .ok (.invokestatic 76, 3) := by decide +kernel
theorem dX0_copyAll_77 : decode cX0_copyAll 77 = .ok (.aload_n 0, 1) := by decide +kernel
theorem dX0_copyAll_78 : decode cX0_copyAll 78 = .ok (.aload_n 1, 1) := by decide +kernel
theorem dX0_copyAll_79 : decode cX0_copyAll 79 = .ok (.getfield 30, 3) := by decide +kernel
theorem dX0_copyAll_82 : decode cX0_copyAll 82 = .ok (.putfield 30, 3) := by decide +kernel
theorem dX0_copyAll_85 : decode cX0_copyAll 85 = .ok (.aload_n 0, 1) := by decide +kernel
theorem dX0_copyAll_86 : decode cX0_copyAll 86 = .ok (.aload_n 1, 1) := by decide +kernel
theorem dX0_copyAll_87 : decode cX0_copyAll 87 = .ok (.getfield 34, 3) := by decide +kernel
theorem dX0_copyAll_90 : decode cX0_copyAll 90 = .ok (.putfield 34, 3) := by decide +kernel
theorem dX0_copyAll_93 : decode cX0_copyAll 93 = .ok (.return_, 1) := by decide +kernel
theorem dX0_copyMotion_0 : decode cX0_copyMotion 0 = .ok (.aload_n 1, 1) := by decide +kernel
theorem dX0_copyMotion_1 : decode cX0_copyMotion 1 = .ok (.getfield 9, 3) := by decide +kernel
theorem dX0_copyMotion_4 : decode cX0_copyMotion 4 = .ok (.iconst 0, 1) := by decide +kernel
theorem dX0_copyMotion_5 : decode cX0_copyMotion 5 = .ok (.aload_n 0, 1) := by decide +kernel
theorem dX0_copyMotion_6 : decode cX0_copyMotion 6 = .ok (.getfield 9, 3) := by decide +kernel
theorem dX0_copyMotion_9 : decode cX0_copyMotion 9 = .ok (.iconst 0, 1) := by decide +kernel
theorem dX0_copyMotion_10 : decode cX0_copyMotion 10 = .ok (.aload_n 0, 1) := by decide +kernel
theorem dX0_copyMotion_11 : decode cX0_copyMotion 11 = .ok (.getfield 9, 3) := by decide +kernel
theorem dX0_copyMotion_14 : decode cX0_copyMotion 14 = .ok (.arraylength, 1) := by decide +kernel
theorem dX0_copyMotion_15 : decode cX0_copyMotion 15 = .ok (.invokestatic 76, 3) := by decide +kernel
theorem dX0_copyMotion_18 : decode cX0_copyMotion 18 = .ok (.aload_n 1, 1) := by decide +kernel
theorem dX0_copyMotion_19 : decode cX0_copyMotion 19 = .ok (.getfield 18, 3) := by decide +kernel
theorem dX0_copyMotion_22 : decode cX0_copyMotion 22 = .ok (.iconst 0, 1) := by decide +kernel
theorem dX0_copyMotion_23 : decode cX0_copyMotion 23 = .ok (.aload_n 0, 1) := by decide +kernel
theorem dX0_copyMotion_24 : decode cX0_copyMotion 24 = .ok (.getfield 18, 3) := by decide +kernel
theorem dX0_copyMotion_27 : decode cX0_copyMotion 27 = .ok (.iconst 0, 1) := by decide +kernel
theorem dX0_copyMotion_28 : decode cX0_copyMotion 28 = .ok (.aload_n 0, 1) := by decide +kernel
theorem dX0_copyMotion_29 : decode cX0_copyMotion 29 = .ok (.getfield 18, 3) := by decide +kernel
theorem dX0_copyMotion_32 : decode cX0_copyMotion 32 = .ok (.arraylength, 1) := by decide +kernel
theorem dX0_copyMotion_33 : decode cX0_copyMotion 33 = .ok (.invokestatic 76, 3) := by decide +kernel
theorem dX0_copyMotion_36 : decode cX0_copyMotion 36 = .ok (.return_, 1) := by decide +kernel
theorem dX0_tellRates_0 : decode cX0_tellRates 0 = .ok (.iconst 0, 1) := by decide +kernel
theorem dX0_tellRates_1 : decode cX0_tellRates 1 = .ok (.istore_n 2, 1) := by decide +kernel
theorem dX0_tellRates_2 : decode cX0_tellRates 2 = .ok (.iload_n 2, 1) := by decide +kernel
theorem dX0_tellRates_3 : decode cX0_tellRates 3 = .ok (.aload_n 0, 1) := by decide +kernel
theorem dX0_tellRates_4 : decode cX0_tellRates 4 = .ok (.getfield 44, 3) := by decide +kernel
theorem dX0_tellRates_7 : decode cX0_tellRates 7 = .ok (.getfield 82, 3) := by decide +kernel
theorem dX0_tellRates_10 : decode cX0_tellRates 10 = .ok (.if_icmp .ge 31, 3) := by decide +kernel
theorem dX0_tellRates_13 : decode cX0_tellRates 13 = .ok (.aload_n 0, 1) := by decide +kernel
theorem dX0_tellRates_14 : decode cX0_tellRates 14 = .ok (.getfield 15, 3) := by decide +kernel
theorem dX0_tellRates_17 : decode cX0_tellRates 17 = .ok (.iload_n 2, 1) := by decide +kernel
theorem dX0_tellRates_18 : decode cX0_tellRates 18 = .ok (.iload_n 1, 1) := by decide +kernel
theorem dX0_tellRates_19 : decode cX0_tellRates 19 = .ok (.iload_n 2, 1) := by decide +kernel
theorem dX0_tellRates_20 : decode cX0_tellRates 20 = .ok (.ishr, 1) := by decide +kernel
theorem dX0_tellRates_21 : decode cX0_tellRates 21 = .ok (.iconst 1, 1) := by decide +kernel
theorem dX0_tellRates_22 : decode cX0_tellRates 22 = .ok (.iand, 1) := by decide +kernel
theorem dX0_tellRates_23 : decode cX0_tellRates 23 = .ok (.iconst 1, 1) := by decide +kernel
theorem dX0_tellRates_24 : decode cX0_tellRates 24 = .ok (.if_icmp .ne 8, 3) := by decide +kernel
theorem dX0_tellRates_27 : decode cX0_tellRates 27 = .ok (.bipush 110, 2) := by decide +kernel
theorem dX0_tellRates_29 : decode cX0_tellRates 29 = .ok (.goto 5, 3) := by decide +kernel
theorem dX0_tellRates_32 : decode cX0_tellRates 32 = .ok (.bipush 90, 2) := by decide +kernel
theorem dX0_tellRates_34 : decode cX0_tellRates 34 = .ok (.iastore, 1) := by decide +kernel
theorem dX0_tellRates_35 : decode cX0_tellRates 35 = .ok (.iinc 2 1, 3) := by decide +kernel
theorem dX0_tellRates_38 : decode cX0_tellRates 38 = .ok (.goto (-36), 3) := by decide +kernel
theorem dX0_tellRates_41 : decode cX0_tellRates 41 = .ok (.return_, 1) := by decide +kernel
set_option maxRecDepth 20000 in
theorem ggX0_tellDelay_X1_hasLink : GoodIn wsX0_tellDelay wsX1_hasLink := goodIn_r _ [7, 8, 9, 10, 11, 6, 12, 13, 14, 15, 16, 28, 29, 30, 31, 32] (by decide +kernel) (by decide +kernel)
set_option maxRecDepth 20000 in
theorem gX0_tellDelay_X1_hasLink : GoodIn wsX0_tellDelay (wsV RX0 85 RX1 yX1_hasLink wsX1_hasLink) := goodIn_app (goodIn_of _ (by decide +kernel)) ggX0_tellDelay_X1_hasLink
set_option maxRecDepth 20000 in
theorem ggX0_tellDelay_X3_cell : GoodIn wsX0_tellDelay wsX3_cell := goodIn_r _ [16] (by decide +kernel) (by decide +kernel)
set_option maxRecDepth 20000 in
theorem gX0_tellDelay_X3_cell_n89 : GoodIn wsX0_tellDelay (wsX3_cell) := ggX0_tellDelay_X3_cell
theorem dX0_tellDelay_0 : decode cX0_tellDelay 0 = .ok (.aload_n 0, 1) := by decide +kernel
theorem dX0_tellDelay_1 : decode cX0_tellDelay 1 = .ok (.getfield 44, 3) := by decide +kernel
theorem dX0_tellDelay_4 : decode cX0_tellDelay 4 = .ok (.iload_n 1, 1) := by decide +kernel
theorem dX0_tellDelay_5 : decode cX0_tellDelay 5 = .ok (.iload_n 2, 1) := by decide +kernel
theorem dX0_tellDelay_6 : decode cX0_tellDelay 6 = .ok (.invokevirtual 85, 3) := by decide +kernel
theorem dX0_tellDelay_9 : decode cX0_tellDelay 9 = .ok (.ifCond .eq 25, 3) := by decide +kernel
theorem dX0_tellDelay_12 : decode cX0_tellDelay 12 = .ok (.aload_n 0, 1) := by decide +kernel
theorem dX0_tellDelay_13 : decode cX0_tellDelay 13 = .ok (.getfield 24, 3) := by decide +kernel
theorem dX0_tellDelay_16 : decode cX0_tellDelay 16 = .ok (.iload_n 1, 1) := by decide +kernel
theorem dX0_tellDelay_17 : decode cX0_tellDelay 17 = .ok (.iload_n 2, 1) := by decide +kernel
theorem dX0_tellDelay_18 : decode cX0_tellDelay 18 = .ok (.invokestatic 89, 3) := by decide +kernel
theorem dX0_tellDelay_21 : decode cX0_tellDelay 21 = .ok (.iload_n 3, 1) := by decide +kernel
theorem dX0_tellDelay_22 : decode cX0_tellDelay 22 = .ok (.iastore, 1) := by decide +kernel
theorem dX0_tellDelay_23 : decode cX0_tellDelay 23 = .ok (.aload_n 0, 1) := by decide +kernel
theorem dX0_tellDelay_24 : decode cX0_tellDelay 24 = .ok (.getfield 24, 3) := by decide +kernel
theorem dX0_tellDelay_27 : decode cX0_tellDelay 27 = .ok (.iload_n 2, 1) := by decide +kernel
theorem dX0_tellDelay_28 : decode cX0_tellDelay 28 = .ok (.iload_n 1, 1) := by decide +kernel
theorem dX0_tellDelay_29 : decode cX0_tellDelay 29 = .ok (.invokestatic 89, 3) := by decide +kernel
theorem dX0_tellDelay_32 : decode cX0_tellDelay 32 = .ok (.iload_n 3, 1) := by decide +kernel
theorem dX0_tellDelay_33 : decode cX0_tellDelay 33 = .ok (.iastore, 1) := by decide +kernel
theorem dX0_tellDelay_34 : decode cX0_tellDelay 34 = .ok (.return_, 1) := by decide +kernel
set_option maxRecDepth 20000 in
theorem ggX0_tellClock_X3_cell : GoodIn wsX0_tellClock wsX3_cell := goodIn_r _ [4] (by decide +kernel) (by decide +kernel)
set_option maxRecDepth 20000 in
theorem gX0_tellClock_X3_cell_n89 : GoodIn wsX0_tellClock (wsX3_cell) := ggX0_tellClock_X3_cell
theorem dX0_tellClock_0 : decode cX0_tellClock 0 = .ok (.iconst 0, 1) := by decide +kernel
theorem dX0_tellClock_1 : decode cX0_tellClock 1 = .ok (.istore_n 3, 1) := by decide +kernel
theorem dX0_tellClock_2 : decode cX0_tellClock 2 = .ok (.iload_n 3, 1) := by decide +kernel
theorem dX0_tellClock_3 : decode cX0_tellClock 3 = .ok (.iconst 3, 1) := by decide +kernel
theorem dX0_tellClock_4 : decode cX0_tellClock 4 = .ok (.if_icmp .gt 20, 3) := by decide +kernel
theorem dX0_tellClock_7 : decode cX0_tellClock 7 = .ok (.aload_n 0, 1) := by decide +kernel
theorem dX0_tellClock_8 : decode cX0_tellClock 8 = .ok (.getfield 9, 3) := by decide +kernel
theorem dX0_tellClock_11 : decode cX0_tellClock 11 = .ok (.iload_n 3, 1) := by decide +kernel
theorem dX0_tellClock_12 : decode cX0_tellClock 12 = .ok (.iload_n 1, 1) := by decide +kernel
theorem dX0_tellClock_13 : decode cX0_tellClock 13 = .ok (.invokestatic 89, 3) := by decide +kernel
theorem dX0_tellClock_16 : decode cX0_tellClock 16 = .ok (.iload_n 2, 1) := by decide +kernel
theorem dX0_tellClock_17 : decode cX0_tellClock 17 = .ok (.iastore, 1) := by decide +kernel
theorem dX0_tellClock_18 : decode cX0_tellClock 18 = .ok (.iinc 3 1, 3) := by decide +kernel
theorem dX0_tellClock_21 : decode cX0_tellClock 21 = .ok (.goto (-19), 3) := by decide +kernel
theorem dX0_tellClock_24 : decode cX0_tellClock 24 = .ok (.return_, 1) := by decide +kernel
theorem dX0_clockOf_0 : decode cX0_clockOf 0 = .ok (.aload_n 0, 1) := by decide +kernel
theorem dX0_clockOf_1 : decode cX0_clockOf 1 = .ok (.getfield 9, 3) := by decide +kernel
theorem dX0_clockOf_4 : decode cX0_clockOf 4 = .ok (.iload_n 1, 1) := by decide +kernel
theorem dX0_clockOf_5 : decode cX0_clockOf 5 = .ok (.iaload, 1) := by decide +kernel
theorem dX0_clockOf_6 : decode cX0_clockOf 6 = .ok (.ireturn, 1) := by decide +kernel
set_option maxRecDepth 20000 in
theorem ggX0_guess_X3_cell : GoodIn wsX0_guess wsX3_cell := goodIn_r _ [6] (by decide +kernel) (by decide +kernel)
set_option maxRecDepth 20000 in
theorem gX0_guess_X3_cell_n89 : GoodIn wsX0_guess (wsX3_cell) := ggX0_guess_X3_cell
theorem dX0_guess_0 : decode cX0_guess 0 = .ok (.iload_n 1, 1) := by decide +kernel
theorem dX0_guess_1 : decode cX0_guess 1 = .ok (.iload_n 2, 1) := by decide +kernel
theorem dX0_guess_2 : decode cX0_guess 2 = .ok (.invokestatic 89, 3) := by decide +kernel
theorem dX0_guess_5 : decode cX0_guess 5 = .ok (.istore_n 3, 1) := by decide +kernel
theorem dX0_guess_6 : decode cX0_guess 6 = .ok (.aload_n 0, 1) := by decide +kernel
theorem dX0_guess_7 : decode cX0_guess 7 = .ok (.getfield 24, 3) := by decide +kernel
theorem dX0_guess_10 : decode cX0_guess 10 = .ok (.iload_n 3, 1) := by decide +kernel
theorem dX0_guess_11 : decode cX0_guess 11 = .ok (.iaload, 1) := by decide +kernel
theorem dX0_guess_12 : decode cX0_guess 12 = .ok (.istore 4, 2) := by decide +kernel
theorem dX0_guess_14 : decode cX0_guess 14 = .ok (.aload_n 0, 1) := by decide +kernel
theorem dX0_guess_15 : decode cX0_guess 15 = .ok (.getfield 9, 3) := by decide +kernel
theorem dX0_guess_18 : decode cX0_guess 18 = .ok (.iload 4, 2) := by decide +kernel
theorem dX0_guess_20 : decode cX0_guess 20 = .ok (.iload_n 2, 1) := by decide +kernel
theorem dX0_guess_21 : decode cX0_guess 21 = .ok (.invokestatic 89, 3) := by decide +kernel
theorem dX0_guess_24 : decode cX0_guess 24 = .ok (.iaload, 1) := by decide +kernel
theorem dX0_guess_25 : decode cX0_guess 25 = .ok (.bipush 100, 2) := by decide +kernel
theorem dX0_guess_27 : decode cX0_guess 27 = .ok (.iload 4, 2) := by decide +kernel
theorem dX0_guess_29 : decode cX0_guess 29 = .ok (.imul, 1) := by decide +kernel
theorem dX0_guess_30 : decode cX0_guess 30 = .ok (.iadd, 1) := by decide +kernel
theorem dX0_guess_31 : decode cX0_guess 31 = .ok (.aload_n 0, 1) := by decide +kernel
theorem dX0_guess_32 : decode cX0_guess 32 = .ok (.getfield 27, 3) := by decide +kernel
theorem dX0_guess_35 : decode cX0_guess 35 = .ok (.iload_n 3, 1) := by decide +kernel
theorem dX0_guess_36 : decode cX0_guess 36 = .ok (.iaload, 1) := by decide +kernel
theorem dX0_guess_37 : decode cX0_guess 37 = .ok (.iadd, 1) := by decide +kernel
theorem dX0_guess_38 : decode cX0_guess 38 = .ok (.ireturn, 1) := by decide +kernel
set_option maxRecDepth 20000 in
theorem ggX0_aheadOf_X0_compareGuesses : GoodIn wsX0_aheadOf wsX0_compareGuesses := goodIn_r _ [6, 7, 8, 9, 10, 11, 12, 1, 13, 14, 15, 16, 5, 17, 18, 19, 20, 21, 22, 23, 24, 25, 26, 27, 28, 29, 30, 31, 32, 33, 34, 35, 36, 37, 38, 39, 40, 41, 42, 43, 44, 45, 46, 47, 48, 49] (by decide +kernel) (by decide +kernel)
set_option maxRecDepth 20000 in
theorem gX0_aheadOf_X0_compareGuesses : GoodIn wsX0_aheadOf (wsV RX0 93 RX0 yX0_compareGuesses wsX0_compareGuesses) := goodIn_app (goodIn_of _ (by decide +kernel)) ggX0_aheadOf_X0_compareGuesses
theorem dX0_aheadOf_0 : decode cX0_aheadOf 0 = .ok (.aload_n 0, 1) := by decide +kernel
theorem dX0_aheadOf_1 : decode cX0_aheadOf 1 = .ok (.iload_n 1, 1) := by decide +kernel
theorem dX0_aheadOf_2 : decode cX0_aheadOf 2 = .ok (.invokevirtual 93, 3) := by decide +kernel
theorem dX0_aheadOf_5 : decode cX0_aheadOf 5 = .ok (.aload_n 0, 1) := by decide +kernel
theorem dX0_aheadOf_6 : decode cX0_aheadOf 6 = .ok (.getfield 38, 3) := by decide +kernel
theorem dX0_aheadOf_9 : decode cX0_aheadOf 9 = .ok (.ireturn, 1) := by decide +kernel
set_option maxRecDepth 20000 in
theorem ggX0_behindOf_X0_compareGuesses : GoodIn wsX0_behindOf wsX0_compareGuesses := goodIn_r _ [6, 7, 8, 9, 10, 11, 12, 13, 1, 14, 15, 16, 5, 17, 18, 19, 20, 21, 22, 23, 24, 25, 26, 27, 28, 29, 30, 31, 32, 33, 34, 35, 36, 37, 38, 39, 40, 41, 42, 43, 44, 45, 46, 47, 48, 49] (by decide +kernel) (by decide +kernel)
set_option maxRecDepth 20000 in
theorem gX0_behindOf_X0_compareGuesses : GoodIn wsX0_behindOf (wsV RX0 93 RX0 yX0_compareGuesses wsX0_compareGuesses) := goodIn_app (goodIn_of _ (by decide +kernel)) ggX0_behindOf_X0_compareGuesses
theorem dX0_behindOf_0 : decode cX0_behindOf 0 = .ok (.aload_n 0, 1) := by decide +kernel
theorem dX0_behindOf_1 : decode cX0_behindOf 1 = .ok (.iload_n 1, 1) := by decide +kernel
theorem dX0_behindOf_2 : decode cX0_behindOf 2 = .ok (.invokevirtual 93, 3) := by decide +kernel
theorem dX0_behindOf_5 : decode cX0_behindOf 5 = .ok (.aload_n 0, 1) := by decide +kernel
theorem dX0_behindOf_6 : decode cX0_behindOf 6 = .ok (.getfield 41, 3) := by decide +kernel
theorem dX0_behindOf_9 : decode cX0_behindOf 9 = .ok (.ireturn, 1) := by decide +kernel
set_option maxRecDepth 20000 in
theorem ggX0_leastUp_X0_compareGuesses : GoodIn wsX0_leastUp wsX0_compareGuesses := goodIn_r _ [5, 6, 7, 8, 9, 10, 11, 12, 13, 14, 15, 16, 4, 17, 18, 19, 20, 21, 22, 23, 24, 25, 26, 27, 28, 29, 30, 31, 32, 33, 43, 44, 45, 46, 47, 48, 49, 50, 51, 52, 53, 54, 55, 56, 57, 58] (by decide +kernel) (by decide +kernel)
set_option maxRecDepth 20000 in
theorem gX0_leastUp_X0_compareGuesses : GoodIn wsX0_leastUp (wsV RX0 93 RX0 yX0_compareGuesses wsX0_compareGuesses) := goodIn_app (goodIn_of _ (by decide +kernel)) ggX0_leastUp_X0_compareGuesses
set_option maxRecDepth 20000 in
theorem ggX0_leastUp_X0_upLevel : GoodIn wsX0_leastUp wsX0_upLevel := goodIn_r _ [37, 13, 12, 6, 38, 26, 39, 40, 41, 42, 43, 44, 45, 46, 47, 48, 49, 50, 51, 52, 53] (by decide +kernel) (by decide +kernel)
set_option maxRecDepth 20000 in
theorem gX0_leastUp_X0_upLevel : GoodIn wsX0_leastUp (wsV RX0 97 RX0 yX0_upLevel wsX0_upLevel) := goodIn_app (goodIn_of _ (by decide +kernel)) ggX0_leastUp_X0_upLevel
theorem dX0_leastUp_0 : decode cX0_leastUp 0 = .ok (.aload_n 0, 1) := by decide +kernel
theorem dX0_leastUp_1 : decode cX0_leastUp 1 = .ok (.iload_n 1, 1) := by decide +kernel
theorem dX0_leastUp_2 : decode cX0_leastUp 2 = .ok (.invokevirtual 93, 3) := by decide +kernel
theorem dX0_leastUp_5 : decode cX0_leastUp 5 = .ok (.aload_n 0, 1) := by decide +kernel
theorem dX0_leastUp_6 : decode cX0_leastUp 6 = .ok (.iload_n 2, 1) := by decide +kernel
theorem dX0_leastUp_7 : decode cX0_leastUp 7 = .ok (.invokevirtual 97, 3) := by decide +kernel
theorem dX0_leastUp_10 : decode cX0_leastUp 10 = .ok (.ireturn, 1) := by decide +kernel
set_option maxRecDepth 20000 in
theorem ggX0_leastDown_X0_compareGuesses : GoodIn wsX0_leastDown wsX0_compareGuesses := goodIn_r _ [5, 6, 7, 8, 9, 10, 11, 12, 13, 14, 15, 16, 4, 17, 18, 19, 20, 21, 22, 23, 24, 25, 26, 27, 28, 29, 30, 31, 32, 33, 40, 41, 42, 43, 44, 45, 46, 47, 48, 49, 50, 51, 52, 53, 54, 55] (by decide +kernel) (by decide +kernel)
set_option maxRecDepth 20000 in
theorem gX0_leastDown_X0_compareGuesses : GoodIn wsX0_leastDown (wsV RX0 93 RX0 yX0_compareGuesses wsX0_compareGuesses) := goodIn_app (goodIn_of _ (by decide +kernel)) ggX0_leastDown_X0_compareGuesses
set_option maxRecDepth 20000 in
theorem ggX0_leastDown_X0_downLevel : GoodIn wsX0_leastDown wsX0_downLevel := goodIn_r _ [37, 12, 13, 6, 38, 26, 39, 40, 41, 42, 43, 44, 45, 46, 47, 48, 49, 50] (by decide +kernel) (by decide +kernel)
set_option maxRecDepth 20000 in
theorem gX0_leastDown_X0_downLevel : GoodIn wsX0_leastDown (wsV RX0 100 RX0 yX0_downLevel wsX0_downLevel) := goodIn_app (goodIn_of _ (by decide +kernel)) ggX0_leastDown_X0_downLevel
theorem dX0_leastDown_0 : decode cX0_leastDown 0 = .ok (.aload_n 0, 1) := by decide +kernel
theorem dX0_leastDown_1 : decode cX0_leastDown 1 = .ok (.iload_n 1, 1) := by decide +kernel
theorem dX0_leastDown_2 : decode cX0_leastDown 2 = .ok (.invokevirtual 93, 3) := by decide +kernel
theorem dX0_leastDown_5 : decode cX0_leastDown 5 = .ok (.aload_n 0, 1) := by decide +kernel
theorem dX0_leastDown_6 : decode cX0_leastDown 6 = .ok (.iload_n 2, 1) := by decide +kernel
theorem dX0_leastDown_7 : decode cX0_leastDown 7 = .ok (.invokevirtual 100, 3) := by decide +kernel
theorem dX0_leastDown_10 : decode cX0_leastDown 10 = .ok (.ireturn, 1) := by decide +kernel
set_option maxRecDepth 20000 in
theorem ggX0_compareGuesses_X0_clockOf : GoodIn wsX0_compareGuesses wsX0_clockOf := goodIn_r _ [13, 14, 30, 31, 32, 33, 34, 35, 36, 37, 38, 39, 40] (by decide +kernel) (by decide +kernel)
set_option maxRecDepth 20000 in
theorem gX0_compareGuesses_X0_clockOf : GoodIn wsX0_compareGuesses (wsV RX0 103 RX0 yX0_clockOf wsX0_clockOf) := goodIn_app (goodIn_of _ (by decide +kernel)) ggX0_compareGuesses_X0_clockOf
set_option maxRecDepth 20000 in
theorem ggX0_compareGuesses_X1_neighbourOf : GoodIn wsX0_compareGuesses wsX1_neighbourOf := goodIn_r _ [19, 20, 21, 22, 23, 41, 42, 43, 44, 45] (by decide +kernel) (by decide +kernel)
set_option maxRecDepth 20000 in
theorem gX0_compareGuesses_X1_neighbourOf : GoodIn wsX0_compareGuesses (wsV RX0 109 RX1 yX1_neighbourOf wsX1_neighbourOf) := goodIn_app (goodIn_of _ (by decide +kernel)) ggX0_compareGuesses_X1_neighbourOf
set_option maxRecDepth 20000 in
theorem ggX0_compareGuesses_X0_guess : GoodIn wsX0_compareGuesses wsX0_guess := goodIn_r _ [27, 28, 14, 29, 21, 22, 23, 30, 31, 32, 33, 34, 35, 36, 37, 38, 39, 40] (by decide +kernel) (by decide +kernel)
set_option maxRecDepth 20000 in
theorem gX0_compareGuesses_X0_guess : GoodIn wsX0_compareGuesses (wsV RX0 112 RX0 yX0_guess wsX0_guess) := goodIn_app (goodIn_of _ (by decide +kernel)) ggX0_compareGuesses_X0_guess
theorem dX0_compareGuesses_0 : decode cX0_compareGuesses 0 = .ok (.ldc 37, 2) := by decide +kernel
theorem dX0_compareGuesses_2 : decode cX0_compareGuesses 2 = .ok (.istore_n 2, 1) := by decide +kernel
theorem dX0_compareGuesses_3 : decode cX0_compareGuesses 3 = .ok (.ldc 37, 2) := by decide +kernel
theorem dX0_compareGuesses_5 : decode cX0_compareGuesses 5 = .ok (.istore_n 3, 1) := by decide +kernel
theorem dX0_compareGuesses_6 : decode cX0_compareGuesses 6 = .ok (.aload_n 0, 1) := by decide +kernel
theorem dX0_compareGuesses_7 : decode cX0_compareGuesses 7 = .ok (.iload_n 1, 1) := by decide +kernel
theorem dX0_compareGuesses_8 : decode cX0_compareGuesses 8 = .ok (.invokevirtual 103, 3) := by decide +kernel
theorem dX0_compareGuesses_11 : decode cX0_compareGuesses 11 = .ok (.istore 4, 2) := by decide +kernel
theorem dX0_compareGuesses_13 : decode cX0_compareGuesses 13 = .ok (.aload_n 0, 1) := by decide +kernel
theorem dX0_compareGuesses_14 : decode cX0_compareGuesses 14 = .ok (.getfield 44, 3) := by decide +kernel
theorem dX0_compareGuesses_17 : decode cX0_compareGuesses 17 = .ok (.getfield 106, 3) := by decide +kernel
theorem dX0_compareGuesses_20 : decode cX0_compareGuesses 20 = .ok (.iload_n 1, 1) := by decide +kernel
theorem dX0_compareGuesses_21 : decode cX0_compareGuesses 21 = .ok (.iaload, 1) := by decide +kernel
theorem dX0_compareGuesses_22 : decode cX0_compareGuesses 22 = .ok (.istore 5, 2) := by decide +kernel
theorem dX0_compareGuesses_24 : decode cX0_compareGuesses 24 = .ok (.iconst 0, 1) := by decide +kernel
theorem dX0_compareGuesses_25 : decode cX0_compareGuesses 25 = .ok (.istore 6, 2) := by decide +kernel
theorem dX0_compareGuesses_27 : decode cX0_compareGuesses 27 = .ok (.iload 6, 2) := by decide +kernel
theorem dX0_compareGuesses_29 : decode cX0_compareGuesses 29 = .ok (.iload 5, 2) := by decide +kernel
theorem dX0_compareGuesses_31 : decode cX0_compareGuesses 31 = .ok (.if_icmp .ge 44, 3) := by decide +kernel
theorem dX0_compareGuesses_34 : decode cX0_compareGuesses 34 = .ok (.aload_n 0, 1) := by decide +kernel
theorem dX0_compareGuesses_35 : decode cX0_compareGuesses 35 = .ok (.iload_n 1, 1) := by decide +kernel
theorem dX0_compareGuesses_36 : decode cX0_compareGuesses 36 = .ok (.aload_n 0, 1) := by decide +kernel
theorem dX0_compareGuesses_37 : decode cX0_compareGuesses 37 = .ok (.getfield 44, 3) := by decide +kernel
theorem dX0_compareGuesses_40 : decode cX0_compareGuesses 40 = .ok (.iload_n 1, 1) := by decide +kernel
theorem dX0_compareGuesses_41 : decode cX0_compareGuesses 41 = .ok (.iload 6, 2) := by decide +kernel
theorem dX0_compareGuesses_43 : decode cX0_compareGuesses 43 = .ok (.invokevirtual 109, 3) := by decide +kernel
theorem dX0_compareGuesses_46 : decode cX0_compareGuesses 46 = .ok (.invokevirtual 112, 3) := by decide +kernel
theorem dX0_compareGuesses_49 : decode cX0_compareGuesses 49 = .ok (.iload 4, 2) := by decide +kernel
theorem dX0_compareGuesses_51 : decode cX0_compareGuesses 51 = .ok (.isub, 1) := by decide +kernel
theorem dX0_compareGuesses_52 : decode cX0_compareGuesses 52 = .ok (.istore 7, 2) := by decide +kernel
theorem dX0_compareGuesses_54 : decode cX0_compareGuesses 54 = .ok (.iload_n 2, 1) := by decide +kernel
theorem dX0_compareGuesses_55 : decode cX0_compareGuesses 55 = .ok (.iload 7, 2) := by decide +kernel
theorem dX0_compareGuesses_57 : decode cX0_compareGuesses 57 = .ok (.invokestatic 115, 3) := by decide +kernel
theorem dX0_compareGuesses_60 : decode cX0_compareGuesses 60 = .ok (.istore_n 2, 1) := by decide +kernel
theorem dX0_compareGuesses_61 : decode cX0_compareGuesses 61 = .ok (.iload_n 3, 1) := by decide +kernel
theorem dX0_compareGuesses_62 : decode cX0_compareGuesses 62 = .ok (.iload 7, 2) := by decide +kernel
theorem dX0_compareGuesses_64 : decode cX0_compareGuesses 64 = .ok (.ineg, 1) := by decide +kernel
theorem dX0_compareGuesses_65 : decode cX0_compareGuesses 65 = .ok (.invokestatic 115, 3) := by decide +kernel
theorem dX0_compareGuesses_68 : decode cX0_compareGuesses 68 = .ok (.istore_n 3, 1) := by decide +kernel
theorem dX0_compareGuesses_69 : decode cX0_compareGuesses 69 = .ok (.iinc 6 1, 3) := by decide +kernel
theorem dX0_compareGuesses_72 : decode cX0_compareGuesses 72 = .ok (.goto (-45), 3) := by decide +kernel
theorem dX0_compareGuesses_75 : decode cX0_compareGuesses 75 = .ok (.aload_n 0, 1) := by decide +kernel
theorem dX0_compareGuesses_76 : decode cX0_compareGuesses 76 = .ok (.iload_n 2, 1) := by decide +kernel
theorem dX0_compareGuesses_77 : decode cX0_compareGuesses 77 = .ok (.putfield 38, 3) := by decide +kernel
theorem dX0_compareGuesses_80 : decode cX0_compareGuesses 80 = .ok (.aload_n 0, 1) := by decide +kernel
theorem dX0_compareGuesses_81 : decode cX0_compareGuesses 81 = .ok (.iload_n 3, 1) := by decide +kernel
theorem dX0_compareGuesses_82 : decode cX0_compareGuesses 82 = .ok (.putfield 41, 3) := by decide +kernel
theorem dX0_compareGuesses_85 : decode cX0_compareGuesses 85 = .ok (.return_, 1) := by decide +kernel
set_option maxRecDepth 20000 in
theorem ggX0_upLevel_X3_levelReaching : GoodIn wsX0_upLevel wsX3_levelReaching := goodIn_r _ [6, 7, 8, 5, 9] (by decide +kernel) (by decide +kernel)
set_option maxRecDepth 20000 in
theorem gX0_upLevel_X3_levelReaching_n120 : GoodIn wsX0_upLevel (wsX3_levelReaching) := ggX0_upLevel_X3_levelReaching
theorem dX0_upLevel_0 : decode cX0_upLevel 0 = .ok (.aload_n 0, 1) := by decide +kernel
theorem dX0_upLevel_1 : decode cX0_upLevel 1 = .ok (.getfield 41, 3) := by decide +kernel
theorem dX0_upLevel_4 : decode cX0_upLevel 4 = .ok (.iload_n 1, 1) := by decide +kernel
theorem dX0_upLevel_5 : decode cX0_upLevel 5 = .ok (.invokestatic 120, 3) := by decide +kernel
theorem dX0_upLevel_8 : decode cX0_upLevel 8 = .ok (.istore_n 2, 1) := by decide +kernel
theorem dX0_upLevel_9 : decode cX0_upLevel 9 = .ok (.aload_n 0, 1) := by decide +kernel
theorem dX0_upLevel_10 : decode cX0_upLevel 10 = .ok (.getfield 38, 3) := by decide +kernel
theorem dX0_upLevel_13 : decode cX0_upLevel 13 = .ok (.iconst 2, 1) := by decide +kernel
theorem dX0_upLevel_14 : decode cX0_upLevel 14 = .ok (.iload_n 2, 1) := by decide +kernel
theorem dX0_upLevel_15 : decode cX0_upLevel 15 = .ok (.imul, 1) := by decide +kernel
theorem dX0_upLevel_16 : decode cX0_upLevel 16 = .ok (.iconst 1, 1) := by decide +kernel
theorem dX0_upLevel_17 : decode cX0_upLevel 17 = .ok (.iadd, 1) := by decide +kernel
theorem dX0_upLevel_18 : decode cX0_upLevel 18 = .ok (.iload_n 1, 1) := by decide +kernel
theorem dX0_upLevel_19 : decode cX0_upLevel 19 = .ok (.imul, 1) := by decide +kernel
theorem dX0_upLevel_20 : decode cX0_upLevel 20 = .ok (.if_icmp .lt 7, 3) := by decide +kernel
theorem dX0_upLevel_23 : decode cX0_upLevel 23 = .ok (.iload_n 2, 1) := by decide +kernel
theorem dX0_upLevel_24 : decode cX0_upLevel 24 = .ok (.goto 5, 3) := by decide +kernel
theorem dX0_upLevel_27 : decode cX0_upLevel 27 = .ok (.ldc 37, 2) := by decide +kernel
theorem dX0_upLevel_29 : decode cX0_upLevel 29 = .ok (.ireturn, 1) := by decide +kernel
set_option maxRecDepth 20000 in
theorem ggX0_downLevel_X3_dividedUp : GoodIn wsX0_downLevel wsX3_dividedUp := goodIn_r _ [6] (by decide +kernel) (by decide +kernel)
set_option maxRecDepth 20000 in
theorem gX0_downLevel_X3_dividedUp_n123 : GoodIn wsX0_downLevel (wsX3_dividedUp) := ggX0_downLevel_X3_dividedUp
theorem dX0_downLevel_0 : decode cX0_downLevel 0 = .ok (.aload_n 0, 1) := by decide +kernel
theorem dX0_downLevel_1 : decode cX0_downLevel 1 = .ok (.getfield 38, 3) := by decide +kernel
theorem dX0_downLevel_4 : decode cX0_downLevel 4 = .ok (.iconst 2, 1) := by decide +kernel
theorem dX0_downLevel_5 : decode cX0_downLevel 5 = .ok (.iload_n 1, 1) := by decide +kernel
theorem dX0_downLevel_6 : decode cX0_downLevel 6 = .ok (.imul, 1) := by decide +kernel
theorem dX0_downLevel_7 : decode cX0_downLevel 7 = .ok (.if_icmp .gt 7, 3) := by decide +kernel
theorem dX0_downLevel_10 : decode cX0_downLevel 10 = .ok (.iconst 1, 1) := by decide +kernel
theorem dX0_downLevel_11 : decode cX0_downLevel 11 = .ok (.goto 13, 3) := by decide +kernel
theorem dX0_downLevel_14 : decode cX0_downLevel 14 = .ok (.aload_n 0, 1) := by decide +kernel
theorem dX0_downLevel_15 : decode cX0_downLevel 15 = .ok (.getfield 38, 3) := by decide +kernel
theorem dX0_downLevel_18 : decode cX0_downLevel 18 = .ok (.iconst 2, 1) := by decide +kernel
theorem dX0_downLevel_19 : decode cX0_downLevel 19 = .ok (.iload_n 1, 1) := by decide +kernel
theorem dX0_downLevel_20 : decode cX0_downLevel 20 = .ok (.imul, 1) := by decide +kernel
theorem dX0_downLevel_21 : decode cX0_downLevel 21 = .ok (.invokestatic 123, 3) := by decide +kernel
theorem dX0_downLevel_24 : decode cX0_downLevel 24 = .ok (.istore_n 2, 1) := by decide +kernel
theorem dX0_downLevel_25 : decode cX0_downLevel 25 = .ok (.aload_n 0, 1) := by decide +kernel
theorem dX0_downLevel_26 : decode cX0_downLevel 26 = .ok (.getfield 41, 3) := by decide +kernel
theorem dX0_downLevel_29 : decode cX0_downLevel 29 = .ok (.iconst 2, 1) := by decide +kernel
theorem dX0_downLevel_30 : decode cX0_downLevel 30 = .ok (.iload_n 2, 1) := by decide +kernel
theorem dX0_downLevel_31 : decode cX0_downLevel 31 = .ok (.imul, 1) := by decide +kernel
theorem dX0_downLevel_32 : decode cX0_downLevel 32 = .ok (.iload_n 1, 1) := by decide +kernel
theorem dX0_downLevel_33 : decode cX0_downLevel 33 = .ok (.imul, 1) := by decide +kernel
theorem dX0_downLevel_34 : decode cX0_downLevel 34 = .ok (.if_icmp .lt 7, 3) := by decide +kernel
theorem dX0_downLevel_37 : decode cX0_downLevel 37 = .ok (.iload_n 2, 1) := by decide +kernel
theorem dX0_downLevel_38 : decode cX0_downLevel 38 = .ok (.goto 5, 3) := by decide +kernel
theorem dX0_downLevel_41 : decode cX0_downLevel 41 = .ok (.ldc 37, 2) := by decide +kernel
theorem dX0_downLevel_43 : decode cX0_downLevel 43 = .ok (.ireturn, 1) := by decide +kernel
set_option maxRecDepth 20000 in
theorem ggX0_tick_X0_move : GoodIn wsX0_tick wsX0_move := goodIn_r _ [14, 1, 15, 3, 16, 17, 18, 19, 20, 21, 22, 23, 24, 13, 25, 6, 7, 8, 9, 26, 27, 28, 29, 30, 31, 32, 33, 34, 35, 36, 37, 38, 39, 40, 41, 42, 43, 44, 45, 46, 47, 48, 49, 50, 51, 52, 53, 54, 55, 56, 57, 58, 59, 81, 82, 83, 84, 85, 86, 87, 88, 89, 90, 91, 92, 93, 94, 95, 96] (by decide +kernel) (by decide +kernel)
set_option maxRecDepth 20000 in
theorem gX0_tick_X0_move : GoodIn wsX0_tick (wsV RX0 126 RX0 yX0_move wsX0_move) := goodIn_app (goodIn_of _ (by decide +kernel)) ggX0_tick_X0_move
set_option maxRecDepth 20000 in
theorem ggX0_tick_X0_localSkew : GoodIn wsX0_tick wsX0_localSkew := goodIn_r _ [63, 64, 65, 66, 13, 67, 15, 1, 6, 7, 8, 9, 68, 69, 70, 35, 71, 72, 73, 38, 39, 40, 74, 75, 76, 77, 78, 79, 80, 28, 29, 30, 31, 16, 81, 82, 83, 84, 85, 86, 87, 88, 89, 90, 91, 92, 93, 94, 95, 96] (by decide +kernel) (by decide +kernel)
set_option maxRecDepth 20000 in
theorem gX0_tick_X0_localSkew : GoodIn wsX0_tick (wsV RX0 130 RX0 yX0_localSkew wsX0_localSkew) := goodIn_app (goodIn_of _ (by decide +kernel)) ggX0_tick_X0_localSkew
theorem dX0_tick_0 : decode cX0_tick 0 = .ok (.aload_n 0, 1) := by decide +kernel
theorem dX0_tick_1 : decode cX0_tick 1 = .ok (.iload_n 1, 1) := by decide +kernel
theorem dX0_tick_2 : decode cX0_tick 2 = .ok (.iload_n 2, 1) := by decide +kernel
theorem dX0_tick_3 : decode cX0_tick 3 = .ok (.invokevirtual 126, 3) := by decide +kernel
theorem dX0_tick_6 : decode cX0_tick 6 = .ok (.iconst 0, 1) := by decide +kernel
theorem dX0_tick_7 : decode cX0_tick 7 = .ok (.istore_n 3, 1) := by decide +kernel
theorem dX0_tick_8 : decode cX0_tick 8 = .ok (.iload_n 3, 1) := by decide +kernel
theorem dX0_tick_9 : decode cX0_tick 9 = .ok (.aload_n 0, 1) := by decide +kernel
theorem dX0_tick_10 : decode cX0_tick 10 = .ok (.getfield 44, 3) := by decide +kernel
theorem dX0_tick_13 : decode cX0_tick 13 = .ok (.getfield 82, 3) := by decide +kernel
theorem dX0_tick_16 : decode cX0_tick 16 = .ok (.if_icmp .ge 24, 3) := by decide +kernel
theorem dX0_tick_19 : decode cX0_tick 19 = .ok (.aload_n 0, 1) := by decide +kernel
theorem dX0_tick_20 : decode cX0_tick 20 = .ok (.getfield 21, 3) := by decide +kernel
theorem dX0_tick_23 : decode cX0_tick 23 = .ok (.iload_n 3, 1) := by decide +kernel
theorem dX0_tick_24 : decode cX0_tick 24 = .ok (.dup2, 1) := by decide +kernel
theorem dX0_tick_25 : decode cX0_tick 25 = .ok (.iaload, 1) := by decide +kernel
theorem dX0_tick_26 : decode cX0_tick 26 = .ok (.aload_n 0, 1) := by decide +kernel
theorem dX0_tick_27 : decode cX0_tick 27 = .ok (.getfield 18, 3) := by decide +kernel
theorem dX0_tick_30 : decode cX0_tick 30 = .ok (.iload_n 3, 1) := by decide +kernel
theorem dX0_tick_31 : decode cX0_tick 31 = .ok (.iaload, 1) := by decide +kernel
theorem dX0_tick_32 : decode cX0_tick 32 = .ok (.iadd, 1) := by decide +kernel
theorem dX0_tick_33 : decode cX0_tick 33 = .ok (.iastore, 1) := by decide +kernel
theorem dX0_tick_34 : decode cX0_tick 34 = .ok (.iinc 3 1, 3) := by decide +kernel
theorem dX0_tick_37 : decode cX0_tick 37 = .ok (.goto (-29), 3) := by decide +kernel
theorem dX0_tick_40 : decode cX0_tick 40 = .ok (.aload_n 0, 1) := by decide +kernel
theorem dX0_tick_41 : decode cX0_tick 41 = .ok (.dup, 1) := by decide +kernel
theorem dX0_tick_42 : decode cX0_tick 42 = .ok (.getfield 30, 3) := by decide +kernel
theorem dX0_tick_45 : decode cX0_tick 45 = .ok (.iconst 1, 1) := by decide +kernel
theorem dX0_tick_46 : decode cX0_tick 46 = .ok (.iadd, 1) := by decide +kernel
theorem dX0_tick_47 : decode cX0_tick 47 = .ok (.putfield 30, 3) := by decide +kernel
theorem dX0_tick_50 : decode cX0_tick 50 = .ok (.aload_n 0, 1) := by decide +kernel
theorem dX0_tick_51 : decode cX0_tick 51 = .ok (.aload_n 0, 1) := by decide +kernel
theorem dX0_tick_52 : decode cX0_tick 52 = .ok (.getfield 34, 3) := by decide +kernel
theorem dX0_tick_55 : decode cX0_tick 55 = .ok (.aload_n 0, 1) := by decide +kernel
theorem dX0_tick_56 : decode cX0_tick 56 = .ok (.invokevirtual 130, 3) := by decide +kernel
theorem dX0_tick_59 : decode cX0_tick 59 = .ok (.invokestatic 115, 3) := by decide +kernel
theorem dX0_tick_62 : decode cX0_tick 62 = .ok (.putfield 34, 3) := by decide +kernel
theorem dX0_tick_65 : decode cX0_tick 65 = .ok (.return_, 1) := by decide +kernel
set_option maxRecDepth 20000 in
theorem ggX0_move_X0_compareGuesses : GoodIn wsX0_move wsX0_compareGuesses := goodIn_r _ [14, 2, 1, 15, 16, 17, 18, 19, 20, 21, 22, 23, 13, 24, 4, 25, 26, 27, 28, 29, 30, 31, 32, 33, 34, 35, 36, 37, 38, 39, 53, 54, 55, 56, 57, 58, 59, 60, 61, 62, 63, 64, 65, 66, 67, 68] (by decide +kernel) (by decide +kernel)
set_option maxRecDepth 20000 in
theorem gX0_move_X0_compareGuesses : GoodIn wsX0_move (wsV RX0 93 RX0 yX0_compareGuesses wsX0_compareGuesses) := goodIn_app (goodIn_of _ (by decide +kernel)) ggX0_move_X0_compareGuesses
set_option maxRecDepth 20000 in
theorem ggX0_move_X0_upLevel : GoodIn wsX0_move wsX0_upLevel := goodIn_r _ [43, 20, 19, 2, 44, 32, 45, 46, 47, 48, 53, 54, 55, 56, 57, 58, 59, 60, 61, 62, 63] (by decide +kernel) (by decide +kernel)
set_option maxRecDepth 20000 in
theorem gX0_move_X0_upLevel : GoodIn wsX0_move (wsV RX0 97 RX0 yX0_upLevel wsX0_upLevel) := goodIn_app (goodIn_of _ (by decide +kernel)) ggX0_move_X0_upLevel
set_option maxRecDepth 20000 in
theorem ggX0_move_X0_downLevel : GoodIn wsX0_move wsX0_downLevel := goodIn_r _ [52, 19, 20, 2, 47, 32, 48, 53, 54, 55, 56, 57, 58, 59, 60, 61, 62, 63] (by decide +kernel) (by decide +kernel)
set_option maxRecDepth 20000 in
theorem gX0_move_X0_downLevel : GoodIn wsX0_move (wsV RX0 100 RX0 yX0_downLevel wsX0_downLevel) := goodIn_app (goodIn_of _ (by decide +kernel)) ggX0_move_X0_downLevel
theorem dX0_move_0 : decode cX0_move 0 = .ok (.iconst 0, 1) := by decide +kernel
theorem dX0_move_1 : decode cX0_move 1 = .ok (.istore_n 3, 1) := by decide +kernel
theorem dX0_move_2 : decode cX0_move 2 = .ok (.iload_n 3, 1) := by decide +kernel
theorem dX0_move_3 : decode cX0_move 3 = .ok (.aload_n 0, 1) := by decide +kernel
theorem dX0_move_4 : decode cX0_move 4 = .ok (.getfield 44, 3) := by decide +kernel
theorem dX0_move_7 : decode cX0_move 7 = .ok (.getfield 82, 3) := by decide +kernel
theorem dX0_move_10 : decode cX0_move 10 = .ok (.if_icmp .ge 51, 3) := by decide +kernel
theorem dX0_move_13 : decode cX0_move 13 = .ok (.aload_n 0, 1) := by decide +kernel
theorem dX0_move_14 : decode cX0_move 14 = .ok (.iload_n 3, 1) := by decide +kernel
theorem dX0_move_15 : decode cX0_move 15 = .ok (.invokevirtual 93, 3) := by decide +kernel
theorem dX0_move_18 : decode cX0_move 18 = .ok (.aload_n 0, 1) := by decide +kernel
theorem dX0_move_19 : decode cX0_move 19 = .ok (.iload_n 1, 1) := by decide +kernel
theorem dX0_move_20 : decode cX0_move 20 = .ok (.invokevirtual 97, 3) := by decide +kernel
theorem dX0_move_23 : decode cX0_move 23 = .ok (.ldc 37, 2) := by decide +kernel
theorem dX0_move_25 : decode cX0_move 25 = .ok (.if_icmp .eq 13, 3) := by decide +kernel
theorem dX0_move_28 : decode cX0_move 28 = .ok (.aload_n 0, 1) := by decide +kernel
theorem dX0_move_29 : decode cX0_move 29 = .ok (.getfield 18, 3) := by decide +kernel
theorem dX0_move_32 : decode cX0_move 32 = .ok (.iload_n 3, 1) := by decide +kernel
theorem dX0_move_33 : decode cX0_move 33 = .ok (.iconst 1, 1) := by decide +kernel
theorem dX0_move_34 : decode cX0_move 34 = .ok (.iastore, 1) := by decide +kernel
theorem dX0_move_35 : decode cX0_move 35 = .ok (.goto 20, 3) := by decide +kernel
theorem dX0_move_38 : decode cX0_move 38 = .ok (.aload_n 0, 1) := by decide +kernel
theorem dX0_move_39 : decode cX0_move 39 = .ok (.iload_n 1, 1) := by decide +kernel
theorem dX0_move_40 : decode cX0_move 40 = .ok (.invokevirtual 100, 3) := by decide +kernel
theorem dX0_move_43 : decode cX0_move 43 = .ok (.ldc 37, 2) := by decide +kernel
theorem dX0_move_45 : decode cX0_move 45 = .ok (.if_icmp .eq 10, 3) := by decide +kernel
theorem dX0_move_48 : decode cX0_move 48 = .ok (.aload_n 0, 1) := by decide +kernel
theorem dX0_move_49 : decode cX0_move 49 = .ok (.getfield 18, 3) := by decide +kernel
theorem dX0_move_52 : decode cX0_move 52 = .ok (.iload_n 3, 1) := by decide +kernel
theorem dX0_move_53 : decode cX0_move 53 = .ok (.iconst 0, 1) := by decide +kernel
theorem dX0_move_54 : decode cX0_move 54 = .ok (.iastore, 1) := by decide +kernel
theorem dX0_move_55 : decode cX0_move 55 = .ok (.iinc 3 1, 3) := by decide +kernel
theorem dX0_move_58 : decode cX0_move 58 = .ok (.goto (-56), 3) := by decide +kernel
theorem dX0_move_61 : decode cX0_move 61 = .ok (.aload_n 0, 1) := by decide +kernel
theorem dX0_move_62 : decode cX0_move 62 = .ok (.getfield 9, 3) := by decide +kernel
theorem dX0_move_65 : decode cX0_move 65 = .ok (.iconst 0, 1) := by decide +kernel
theorem dX0_move_66 : decode cX0_move 66 = .ok (.aload_n 0, 1) := by decide +kernel
theorem dX0_move_67 : decode cX0_move 67 = .ok (.getfield 9, 3) := by decide +kernel
theorem dX0_move_70 : decode cX0_move 70 = .ok (.bipush 6, 2) := by decide +kernel
theorem dX0_move_72 : decode cX0_move 72 = .ok (.bipush 18, 2) := by decide +kernel
theorem dX0_move_74 : decode cX0_move 74 = .ok (.invokestatic 76, 3) := by decide +kernel
theorem dX0_move_77 : decode cX0_move 77 = .ok (.iconst 0, 1) := by decide +kernel
theorem dX0_move_78 : decode cX0_move 78 = .ok (.istore_n 3, 1) := by decide +kernel
theorem dX0_move_79 : decode cX0_move 79 = .ok (.iload_n 3, 1) := by decide +kernel
theorem dX0_move_80 : decode cX0_move 80 = .ok (.aload_n 0, 1) := by decide +kernel
theorem dX0_move_81 : decode cX0_move 81 = .ok (.getfield 44, 3) := by decide +kernel
theorem dX0_move_84 : decode cX0_move 84 = .ok (.getfield 82, 3) := by decide +kernel
theorem dX0_move_87 : decode cX0_move 87 = .ok (.if_icmp .ge 33, 3) := by decide +kernel
theorem dX0_move_90 : decode cX0_move 90 = .ok (.aload_n 0, 1) := by decide +kernel
theorem dX0_move_91 : decode cX0_move 91 = .ok (.getfield 9, 3) := by decide +kernel
theorem dX0_move_94 : decode cX0_move 94 = .ok (.iload_n 3, 1) := by decide +kernel
theorem dX0_move_95 : decode cX0_move 95 = .ok (.dup2, 1) := by decide +kernel
theorem dX0_move_96 : decode cX0_move 96 = .ok (.iaload, 1) := by decide +kernel
theorem dX0_move_97 : decode cX0_move 97 = .ok (.aload_n 0, 1) := by decide +kernel
theorem dX0_move_98 : decode cX0_move 98 = .ok (.getfield 15, 3) := by decide +kernel
theorem dX0_move_101 : decode cX0_move 101 = .ok (.iload_n 3, 1) := by decide +kernel
theorem dX0_move_102 : decode cX0_move 102 = .ok (.iaload, 1) := by decide +kernel
theorem dX0_move_103 : decode cX0_move 103 = .ok (.aload_n 0, 1) := by decide +kernel
theorem dX0_move_104 : decode cX0_move 104 = .ok (.getfield 18, 3) := by decide +kernel
theorem dX0_move_107 : decode cX0_move 107 = .ok (.iload_n 3, 1) := by decide +kernel
theorem dX0_move_108 : decode cX0_move 108 = .ok (.iaload, 1) := by decide +kernel
theorem dX0_move_109 : decode cX0_move 109 = .ok (.iload_n 2, 1) := by decide +kernel
theorem dX0_move_110 : decode cX0_move 110 = .ok (.imul, 1) := by decide +kernel
theorem dX0_move_111 : decode cX0_move 111 = .ok (.iadd, 1) := by decide +kernel
theorem dX0_move_112 : decode cX0_move 112 = .ok (.iadd, 1) := by decide +kernel
theorem dX0_move_113 : decode cX0_move 113 = .ok (.iastore, 1) := by decide +kernel
theorem dX0_move_114 : decode cX0_move 114 = .ok (.iinc 3 1, 3) := by decide +kernel
theorem dX0_move_117 : decode cX0_move 117 = .ok (.goto (-38), 3) := by decide +kernel
theorem dX0_move_120 : decode cX0_move 120 = .ok (.return_, 1) := by decide +kernel
set_option maxRecDepth 20000 in
theorem ggX0_skewOf_X0_clockOf : GoodIn wsX0_skewOf wsX0_clockOf := goodIn_r _ [9, 10, 11, 12, 13, 14, 15, 16, 17, 18, 19, 20, 21] (by decide +kernel) (by decide +kernel)
set_option maxRecDepth 20000 in
theorem gX0_skewOf_X0_clockOf : GoodIn wsX0_skewOf (wsV RX0 103 RX0 yX0_clockOf wsX0_clockOf) := goodIn_app (goodIn_of _ (by decide +kernel)) ggX0_skewOf_X0_clockOf
theorem dX0_skewOf_0 : decode cX0_skewOf 0 = .ok (.aload_n 0, 1) := by decide +kernel
theorem dX0_skewOf_1 : decode cX0_skewOf 1 = .ok (.iload_n 1, 1) := by decide +kernel
theorem dX0_skewOf_2 : decode cX0_skewOf 2 = .ok (.invokevirtual 103, 3) := by decide +kernel
theorem dX0_skewOf_5 : decode cX0_skewOf 5 = .ok (.aload_n 0, 1) := by decide +kernel
theorem dX0_skewOf_6 : decode cX0_skewOf 6 = .ok (.iload_n 2, 1) := by decide +kernel
theorem dX0_skewOf_7 : decode cX0_skewOf 7 = .ok (.invokevirtual 103, 3) := by decide +kernel
theorem dX0_skewOf_10 : decode cX0_skewOf 10 = .ok (.isub, 1) := by decide +kernel
theorem dX0_skewOf_11 : decode cX0_skewOf 11 = .ok (.invokestatic 134, 3) := by decide +kernel
theorem dX0_skewOf_14 : decode cX0_skewOf 14 = .ok (.ireturn, 1) := by decide +kernel
set_option maxRecDepth 20000 in
theorem ggX0_localSkew_X0_skewByHops : GoodIn wsX0_localSkew wsX0_skewByHops := goodIn_r _ [5, 6, 7, 8, 9, 10, 11, 12, 13, 14, 15, 16, 17, 18, 19, 20, 21, 22, 23, 24, 4, 25, 26, 27, 28, 29, 30, 31, 32, 33, 34, 35, 36, 37, 38, 39, 40, 41, 42, 43, 44, 45, 46, 47, 48, 49] (by decide +kernel) (by decide +kernel)
set_option maxRecDepth 20000 in
theorem gX0_localSkew_X0_skewByHops : GoodIn wsX0_localSkew (wsV RX0 137 RX0 yX0_skewByHops wsX0_skewByHops) := goodIn_app (goodIn_of _ (by decide +kernel)) ggX0_localSkew_X0_skewByHops
theorem dX0_localSkew_0 : decode cX0_localSkew 0 = .ok (.aload_n 0, 1) := by decide +kernel
theorem dX0_localSkew_1 : decode cX0_localSkew 1 = .ok (.iconst 1, 1) := by decide +kernel
theorem dX0_localSkew_2 : decode cX0_localSkew 2 = .ok (.invokevirtual 137, 3) := by decide +kernel
theorem dX0_localSkew_5 : decode cX0_localSkew 5 = .ok (.ireturn, 1) := by decide +kernel
set_option maxRecDepth 20000 in
theorem ggX0_globalSkew_X0_skewOf : GoodIn wsX0_globalSkew wsX0_skewOf := goodIn_r _ [10, 11, 12, 4, 13, 14, 15, 16, 9, 17, 18, 19, 20, 21, 22, 23, 24, 25, 26, 27, 28, 29] (by decide +kernel) (by decide +kernel)
set_option maxRecDepth 20000 in
theorem gX0_globalSkew_X0_skewOf : GoodIn wsX0_globalSkew (wsV RX0 140 RX0 yX0_skewOf wsX0_skewOf) := goodIn_app (goodIn_of _ (by decide +kernel)) ggX0_globalSkew_X0_skewOf
theorem dX0_globalSkew_0 : decode cX0_globalSkew 0 = .ok (.iconst 0, 1) := by decide +kernel
theorem dX0_globalSkew_1 : decode cX0_globalSkew 1 = .ok (.istore_n 1, 1) := by decide +kernel
theorem dX0_globalSkew_2 : decode cX0_globalSkew 2 = .ok (.iconst 0, 1) := by decide +kernel
theorem dX0_globalSkew_3 : decode cX0_globalSkew 3 = .ok (.istore_n 2, 1) := by decide +kernel
theorem dX0_globalSkew_4 : decode cX0_globalSkew 4 = .ok (.iload_n 2, 1) := by decide +kernel
theorem dX0_globalSkew_5 : decode cX0_globalSkew 5 = .ok (.aload_n 0, 1) := by decide +kernel
theorem dX0_globalSkew_6 : decode cX0_globalSkew 6 = .ok (.getfield 44, 3) := by decide +kernel
theorem dX0_globalSkew_9 : decode cX0_globalSkew 9 = .ok (.getfield 82, 3) := by decide +kernel
theorem dX0_globalSkew_12 : decode cX0_globalSkew 12 = .ok (.if_icmp .ge 41, 3) := by decide +kernel
theorem dX0_globalSkew_15 : decode cX0_globalSkew 15 = .ok (.iload_n 2, 1) := by decide +kernel
theorem dX0_globalSkew_16 : decode cX0_globalSkew 16 = .ok (.iconst 1, 1) := by decide +kernel
theorem dX0_globalSkew_17 : decode cX0_globalSkew 17 = .ok (.iadd, 1) := by decide +kernel
theorem dX0_globalSkew_18 : decode cX0_globalSkew 18 = .ok (.istore_n 3, 1) := by decide +kernel
theorem dX0_globalSkew_19 : decode cX0_globalSkew 19 = .ok (.iload_n 3, 1) := by decide +kernel
theorem dX0_globalSkew_20 : decode cX0_globalSkew 20 = .ok (.aload_n 0, 1) := by decide +kernel
theorem dX0_globalSkew_21 : decode cX0_globalSkew 21 = .ok (.getfield 44, 3) := by decide +kernel
theorem dX0_globalSkew_24 : decode cX0_globalSkew 24 = .ok (.getfield 82, 3) := by decide +kernel
theorem dX0_globalSkew_27 : decode cX0_globalSkew 27 = .ok (.if_icmp .ge 20, 3) := by decide +kernel
theorem dX0_globalSkew_30 : decode cX0_globalSkew 30 = .ok (.iload_n 1, 1) := by decide +kernel
theorem dX0_globalSkew_31 : decode cX0_globalSkew 31 = .ok (.aload_n 0, 1) := by decide +kernel
theorem dX0_globalSkew_32 : decode cX0_globalSkew 32 = .ok (.iload_n 2, 1) := by decide +kernel
theorem dX0_globalSkew_33 : decode cX0_globalSkew 33 = .ok (.iload_n 3, 1) := by decide +kernel
theorem dX0_globalSkew_34 : decode cX0_globalSkew 34 = .ok (.invokevirtual 140, 3) := by decide +kernel
theorem dX0_globalSkew_37 : decode cX0_globalSkew 37 = .ok (.invokestatic 115, 3) := by decide +kernel
theorem dX0_globalSkew_40 : decode cX0_globalSkew 40 = .ok (.istore_n 1, 1) := by decide +kernel
theorem dX0_globalSkew_41 : decode cX0_globalSkew 41 = .ok (.iinc 3 1, 3) := by decide +kernel
theorem dX0_globalSkew_44 : decode cX0_globalSkew 44 = .ok (.goto (-25), 3) := by decide +kernel
theorem dX0_globalSkew_47 : decode cX0_globalSkew 47 = .ok (.iinc 2 1, 3) := by decide +kernel
theorem dX0_globalSkew_50 : decode cX0_globalSkew 50 = .ok (.goto (-46), 3) := by decide +kernel
theorem dX0_globalSkew_53 : decode cX0_globalSkew 53 = .ok (.iload_n 1, 1) := by decide +kernel
theorem dX0_globalSkew_54 : decode cX0_globalSkew 54 = .ok (.ireturn, 1) := by decide +kernel
set_option maxRecDepth 20000 in
theorem ggX0_skewByHops_X1_hopsOf : GoodIn wsX0_skewByHops wsX1_hopsOf := goodIn_r _ [11, 12, 13, 14, 15, 16, 41, 42, 43, 44, 45] (by decide +kernel) (by decide +kernel)
set_option maxRecDepth 20000 in
theorem gX0_skewByHops_X1_hopsOf : GoodIn wsX0_skewByHops (wsV RX0 143 RX1 yX1_hopsOf wsX1_hopsOf) := goodIn_app (goodIn_of _ (by decide +kernel)) ggX0_skewByHops_X1_hopsOf
set_option maxRecDepth 20000 in
theorem ggX0_skewByHops_X0_skewOf : GoodIn wsX0_skewByHops wsX0_skewOf := goodIn_r _ [21, 22, 23, 5, 24, 25, 26, 27, 20, 28, 29, 30, 31, 32, 33, 34, 35, 36, 37, 38, 39, 40] (by decide +kernel) (by decide +kernel)
set_option maxRecDepth 20000 in
theorem gX0_skewByHops_X0_skewOf : GoodIn wsX0_skewByHops (wsV RX0 140 RX0 yX0_skewOf wsX0_skewOf) := goodIn_app (goodIn_of _ (by decide +kernel)) ggX0_skewByHops_X0_skewOf
theorem dX0_skewByHops_0 : decode cX0_skewByHops 0 = .ok (.ldc 37, 2) := by decide +kernel
theorem dX0_skewByHops_2 : decode cX0_skewByHops 2 = .ok (.istore_n 2, 1) := by decide +kernel
theorem dX0_skewByHops_3 : decode cX0_skewByHops 3 = .ok (.iconst 0, 1) := by decide +kernel
theorem dX0_skewByHops_4 : decode cX0_skewByHops 4 = .ok (.istore_n 3, 1) := by decide +kernel
theorem dX0_skewByHops_5 : decode cX0_skewByHops 5 = .ok (.iload_n 3, 1) := by decide +kernel
theorem dX0_skewByHops_6 : decode cX0_skewByHops 6 = .ok (.aload_n 0, 1) := by decide +kernel
theorem dX0_skewByHops_7 : decode cX0_skewByHops 7 = .ok (.getfield 44, 3) := by decide +kernel
theorem dX0_skewByHops_10 : decode cX0_skewByHops 10 = .ok (.getfield 82, 3) := by decide +kernel
theorem dX0_skewByHops_13 : decode cX0_skewByHops 13 = .ok (.if_icmp .ge 58, 3) := by decide +kernel
theorem dX0_skewByHops_16 : decode cX0_skewByHops 16 = .ok (.iload_n 3, 1) := by decide +kernel
theorem dX0_skewByHops_17 : decode cX0_skewByHops 17 = .ok (.iconst 1, 1) := by decide +kernel
theorem dX0_skewByHops_18 : decode cX0_skewByHops 18 = .ok (.iadd, 1) := by decide +kernel
theorem dX0_skewByHops_19 : decode cX0_skewByHops 19 = .ok (.istore 4, 2) := by decide +kernel
theorem dX0_skewByHops_21 : decode cX0_skewByHops 21 = .ok (.iload 4, 2) := by decide +kernel
theorem dX0_skewByHops_23 : decode cX0_skewByHops 23 = .ok (.aload_n 0, 1) := by decide +kernel
theorem dX0_skewByHops_24 : decode cX0_skewByHops 24 = .ok (.getfield 44, 3) := by decide +kernel
theorem dX0_skewByHops_27 : decode cX0_skewByHops 27 = .ok (.getfield 82, 3) := by decide +kernel
theorem dX0_skewByHops_30 : decode cX0_skewByHops 30 = .ok (.if_icmp .ge 35, 3) := by decide +kernel
theorem dX0_skewByHops_33 : decode cX0_skewByHops 33 = .ok (.aload_n 0, 1) := by decide +kernel
theorem dX0_skewByHops_34 : decode cX0_skewByHops 34 = .ok (.getfield 44, 3) := by decide +kernel
theorem dX0_skewByHops_37 : decode cX0_skewByHops 37 = .ok (.iload_n 3, 1) := by decide +kernel
theorem dX0_skewByHops_38 : decode cX0_skewByHops 38 = .ok (.iload 4, 2) := by decide +kernel
theorem dX0_skewByHops_40 : decode cX0_skewByHops 40 = .ok (.invokevirtual 143, 3) := by decide +kernel
theorem dX0_skewByHops_43 : decode cX0_skewByHops 43 = .ok (.iload_n 1, 1) := by decide +kernel
theorem dX0_skewByHops_44 : decode cX0_skewByHops 44 = .ok (.if_icmp .ne 15, 3) := by decide +kernel
theorem dX0_skewByHops_47 : decode cX0_skewByHops 47 = .ok (.iload_n 2, 1) := by decide +kernel
theorem dX0_skewByHops_48 : decode cX0_skewByHops 48 = .ok (.aload_n 0, 1) := by decide +kernel
theorem dX0_skewByHops_49 : decode cX0_skewByHops 49 = .ok (.iload_n 3, 1) := by decide +kernel
theorem dX0_skewByHops_50 : decode cX0_skewByHops 50 = .ok (.iload 4, 2) := by decide +kernel
theorem dX0_skewByHops_52 : decode cX0_skewByHops 52 = .ok (.invokevirtual 140, 3) := by decide +kernel
theorem dX0_skewByHops_55 : decode cX0_skewByHops 55 = .ok (.invokestatic 115, 3) := by decide +kernel
theorem dX0_skewByHops_58 : decode cX0_skewByHops 58 = .ok (.istore_n 2, 1) := by decide +kernel
theorem dX0_skewByHops_59 : decode cX0_skewByHops 59 = .ok (.iinc 4 1, 3) := by decide +kernel
theorem dX0_skewByHops_62 : decode cX0_skewByHops 62 = .ok (.goto (-41), 3) := by decide +kernel
theorem dX0_skewByHops_65 : decode cX0_skewByHops 65 = .ok (.iinc 3 1, 3) := by decide +kernel
theorem dX0_skewByHops_68 : decode cX0_skewByHops 68 = .ok (.goto (-63), 3) := by decide +kernel
theorem dX0_skewByHops_71 : decode cX0_skewByHops 71 = .ok (.iload_n 2, 1) := by decide +kernel
theorem dX0_skewByHops_72 : decode cX0_skewByHops 72 = .ok (.ireturn, 1) := by decide +kernel
theorem dX0_howManyFast_0 : decode cX0_howManyFast 0 = .ok (.iconst 0, 1) := by decide +kernel
theorem dX0_howManyFast_1 : decode cX0_howManyFast 1 = .ok (.istore_n 1, 1) := by decide +kernel
theorem dX0_howManyFast_2 : decode cX0_howManyFast 2 = .ok (.iconst 0, 1) := by decide +kernel
theorem dX0_howManyFast_3 : decode cX0_howManyFast 3 = .ok (.istore_n 2, 1) := by decide +kernel
theorem dX0_howManyFast_4 : decode cX0_howManyFast 4 = .ok (.iload_n 2, 1) := by decide +kernel
theorem dX0_howManyFast_5 : decode cX0_howManyFast 5 = .ok (.aload_n 0, 1) := by decide +kernel
theorem dX0_howManyFast_6 : decode cX0_howManyFast 6 = .ok (.getfield 44, 3) := by decide +kernel
theorem dX0_howManyFast_9 : decode cX0_howManyFast 9 = .ok (.getfield 82, 3) := by decide +kernel
theorem dX0_howManyFast_12 : decode cX0_howManyFast 12 = .ok (.if_icmp .ge 18, 3) := by decide +kernel
theorem dX0_howManyFast_15 : decode cX0_howManyFast 15 = .ok (.iload_n 1, 1) := by decide +kernel
theorem dX0_howManyFast_16 : decode cX0_howManyFast 16 = .ok (.aload_n 0, 1) := by decide +kernel
theorem dX0_howManyFast_17 : decode cX0_howManyFast 17 = .ok (.getfield 18, 3) := by decide +kernel
theorem dX0_howManyFast_20 : decode cX0_howManyFast 20 = .ok (.iload_n 2, 1) := by decide +kernel
theorem dX0_howManyFast_21 : decode cX0_howManyFast 21 = .ok (.iaload, 1) := by decide +kernel
theorem dX0_howManyFast_22 : decode cX0_howManyFast 22 = .ok (.iadd, 1) := by decide +kernel
theorem dX0_howManyFast_23 : decode cX0_howManyFast 23 = .ok (.istore_n 1, 1) := by decide +kernel
theorem dX0_howManyFast_24 : decode cX0_howManyFast 24 = .ok (.iinc 2 1, 3) := by decide +kernel
theorem dX0_howManyFast_27 : decode cX0_howManyFast 27 = .ok (.goto (-23), 3) := by decide +kernel
theorem dX0_howManyFast_30 : decode cX0_howManyFast 30 = .ok (.iload_n 1, 1) := by decide +kernel
theorem dX0_howManyFast_31 : decode cX0_howManyFast 31 = .ok (.ireturn, 1) := by decide +kernel
theorem dX1_init_0 : decode cX1_init 0 = .ok (.aload_n 0, 1) := by decide +kernel
theorem dX1_init_1 : decode cX1_init 1 = .ok (.invokespecial 3, 3) := by decide +kernel
theorem dX1_init_4 : decode cX1_init 4 = .ok (.aload_n 0, 1) := by decide +kernel
theorem dX1_init_5 : decode cX1_init 5 = .ok (.bipush 6, 2) := by decide +kernel
theorem dX1_init_7 : decode cX1_init 7 = .ok (.newarray .int, 2) := by decide +kernel
theorem dX1_init_9 : decode cX1_init 9 = .ok (.putfield 9, 3) := by decide +kernel
theorem dX1_init_12 : decode cX1_init 12 = .ok (.aload_n 0, 1) := by decide +kernel
theorem dX1_init_13 : decode cX1_init 13 = .ok (.bipush 36, 2) := by decide +kernel
theorem dX1_init_15 : decode cX1_init 15 = .ok (.newarray .int, 2) := by decide +kernel
theorem dX1_init_17 : decode cX1_init 17 = .ok (.putfield 15, 3) := by decide +kernel
theorem dX1_init_20 : decode cX1_init 20 = .ok (.aload_n 0, 1) := by decide +kernel
theorem dX1_init_21 : decode cX1_init 21 = .ok (.bipush 36, 2) := by decide +kernel
theorem dX1_init_23 : decode cX1_init 23 = .ok (.newarray .int, 2) := by decide +kernel
theorem dX1_init_25 : decode cX1_init 25 = .ok (.putfield 18, 3) := by decide +kernel
theorem dX1_init_28 : decode cX1_init 28 = .ok (.aload_n 0, 1) := by decide +kernel
theorem dX1_init_29 : decode cX1_init 29 = .ok (.iconst 0, 1) := by decide +kernel
theorem dX1_init_30 : decode cX1_init 30 = .ok (.putfield 21, 3) := by decide +kernel
theorem dX1_init_33 : decode cX1_init 33 = .ok (.aload_n 0, 1) := by decide +kernel
theorem dX1_init_34 : decode cX1_init 34 = .ok (.iconst 0, 1) := by decide +kernel
theorem dX1_init_35 : decode cX1_init 35 = .ok (.putfield 25, 3) := by decide +kernel
theorem dX1_init_38 : decode cX1_init 38 = .ok (.return_, 1) := by decide +kernel
theorem dX1_isRead_0 : decode cX1_isRead 0 = .ok (.aload_n 0, 1) := by decide +kernel
theorem dX1_isRead_1 : decode cX1_isRead 1 = .ok (.getfield 21, 3) := by decide +kernel
theorem dX1_isRead_4 : decode cX1_isRead 4 = .ok (.ifCond .le 7, 3) := by decide +kernel
theorem dX1_isRead_7 : decode cX1_isRead 7 = .ok (.iconst 1, 1) := by decide +kernel
theorem dX1_isRead_8 : decode cX1_isRead 8 = .ok (.goto 4, 3) := by decide +kernel
theorem dX1_isRead_11 : decode cX1_isRead 11 = .ok (.iconst 0, 1) := by decide +kernel
theorem dX1_isRead_12 : decode cX1_isRead 12 = .ok (.ireturn, 1) := by decide +kernel
theorem dX1_hasNode_0 : decode cX1_hasNode 0 = .ok (.iload_n 1, 1) := by decide +kernel
theorem dX1_hasNode_1 : decode cX1_hasNode 1 = .ok (.ifCond .lt 15, 3) := by decide +kernel
theorem dX1_hasNode_4 : decode cX1_hasNode 4 = .ok (.iload_n 1, 1) := by decide +kernel
theorem dX1_hasNode_5 : decode cX1_hasNode 5 = .ok (.aload_n 0, 1) := by decide +kernel
theorem dX1_hasNode_6 : decode cX1_hasNode 6 = .ok (.getfield 21, 3) := by decide +kernel
theorem dX1_hasNode_9 : decode cX1_hasNode 9 = .ok (.if_icmp .ge 7, 3) := by decide +kernel
theorem dX1_hasNode_12 : decode cX1_hasNode 12 = .ok (.iconst 1, 1) := by decide +kernel
theorem dX1_hasNode_13 : decode cX1_hasNode 13 = .ok (.goto 4, 3) := by decide +kernel
theorem dX1_hasNode_16 : decode cX1_hasNode 16 = .ok (.iconst 0, 1) := by decide +kernel
theorem dX1_hasNode_17 : decode cX1_hasNode 17 = .ok (.ireturn, 1) := by decide +kernel
set_option maxRecDepth 20000 in
theorem ggX1_hasLink_X1_hasNode : GoodIn wsX1_hasLink wsX1_hasNode := goodIn_r _ [6, 7, 11, 12, 13, 14, 15] (by decide +kernel) (by decide +kernel)
set_option maxRecDepth 20000 in
theorem gX1_hasLink_X1_hasNode : GoodIn wsX1_hasLink (wsV RX1 28 RX1 yX1_hasNode wsX1_hasNode) := goodIn_app (goodIn_of _ (by decide +kernel)) ggX1_hasLink_X1_hasNode
set_option maxRecDepth 20000 in
theorem ggX1_hasLink_X3_cell : GoodIn wsX1_hasLink wsX3_cell := goodIn_r _ [10] (by decide +kernel) (by decide +kernel)
set_option maxRecDepth 20000 in
theorem gX1_hasLink_X3_cell_n32 : GoodIn wsX1_hasLink (wsX3_cell) := ggX1_hasLink_X3_cell
theorem dX1_hasLink_0 : decode cX1_hasLink 0 = .ok (.aload_n 0, 1) := by decide +kernel
theorem dX1_hasLink_1 : decode cX1_hasLink 1 = .ok (.iload_n 1, 1) := by decide +kernel
theorem dX1_hasLink_2 : decode cX1_hasLink 2 = .ok (.invokevirtual 28, 3) := by decide +kernel
theorem dX1_hasLink_5 : decode cX1_hasLink 5 = .ok (.ifCond .eq 29, 3) := by decide +kernel
theorem dX1_hasLink_8 : decode cX1_hasLink 8 = .ok (.aload_n 0, 1) := by decide +kernel
theorem dX1_hasLink_9 : decode cX1_hasLink 9 = .ok (.iload_n 2, 1) := by decide +kernel
theorem dX1_hasLink_10 : decode cX1_hasLink 10 = .ok (.invokevirtual 28, 3) := by decide +kernel
theorem dX1_hasLink_13 : decode cX1_hasLink 13 = .ok (.ifCond .eq 21, 3) := by decide +kernel
theorem dX1_hasLink_16 : decode cX1_hasLink 16 = .ok (.aload_n 0, 1) := by decide +kernel
theorem dX1_hasLink_17 : decode cX1_hasLink 17 = .ok (.getfield 18, 3) := by decide +kernel
theorem dX1_hasLink_20 : decode cX1_hasLink 20 = .ok (.iload_n 1, 1) := by decide +kernel
theorem dX1_hasLink_21 : decode cX1_hasLink 21 = .ok (.iload_n 2, 1) := by decide +kernel
theorem dX1_hasLink_22 : decode cX1_hasLink 22 = .ok (.invokestatic 32, 3) := by decide +kernel
theorem dX1_hasLink_25 : decode cX1_hasLink 25 = .ok (.iaload, 1) := by decide +kernel
theorem dX1_hasLink_26 : decode cX1_hasLink 26 = .ok (.iconst 1, 1) := by decide +kernel
theorem dX1_hasLink_27 : decode cX1_hasLink 27 = .ok (.if_icmp .ne 7, 3) := by decide +kernel
theorem dX1_hasLink_30 : decode cX1_hasLink 30 = .ok (.iconst 1, 1) := by decide +kernel
theorem dX1_hasLink_31 : decode cX1_hasLink 31 = .ok (.goto 4, 3) := by decide +kernel
theorem dX1_hasLink_34 : decode cX1_hasLink 34 = .ok (.iconst 0, 1) := by decide +kernel
theorem dX1_hasLink_35 : decode cX1_hasLink 35 = .ok (.ireturn, 1) := by decide +kernel
set_option maxRecDepth 20000 in
theorem ggX1_hopsOf_X3_cell : GoodIn wsX1_hopsOf wsX3_cell := goodIn_r _ [5] (by decide +kernel) (by decide +kernel)
set_option maxRecDepth 20000 in
theorem gX1_hopsOf_X3_cell_n32 : GoodIn wsX1_hopsOf (wsX3_cell) := ggX1_hopsOf_X3_cell
theorem dX1_hopsOf_0 : decode cX1_hopsOf 0 = .ok (.aload_n 0, 1) := by decide +kernel
theorem dX1_hopsOf_1 : decode cX1_hopsOf 1 = .ok (.getfield 18, 3) := by decide +kernel
theorem dX1_hopsOf_4 : decode cX1_hopsOf 4 = .ok (.iload_n 1, 1) := by decide +kernel
theorem dX1_hopsOf_5 : decode cX1_hopsOf 5 = .ok (.iload_n 2, 1) := by decide +kernel
theorem dX1_hopsOf_6 : decode cX1_hopsOf 6 = .ok (.invokestatic 32, 3) := by decide +kernel
theorem dX1_hopsOf_9 : decode cX1_hopsOf 9 = .ok (.iaload, 1) := by decide +kernel
theorem dX1_hopsOf_10 : decode cX1_hopsOf 10 = .ok (.istore_n 3, 1) := by decide +kernel
theorem dX1_hopsOf_11 : decode cX1_hopsOf 11 = .ok (.iload_n 3, 1) := by decide +kernel
theorem dX1_hopsOf_12 : decode cX1_hopsOf 12 = .ok (.sipush 1000, 3) := by decide +kernel
theorem dX1_hopsOf_15 : decode cX1_hopsOf 15 = .ok (.if_icmp .ge 7, 3) := by decide +kernel
theorem dX1_hopsOf_18 : decode cX1_hopsOf 18 = .ok (.iload_n 3, 1) := by decide +kernel
theorem dX1_hopsOf_19 : decode cX1_hopsOf 19 = .ok (.goto 5, 3) := by decide +kernel
theorem dX1_hopsOf_22 : decode cX1_hopsOf 22 = .ok (.ldc 36, 2) := by decide +kernel
theorem dX1_hopsOf_24 : decode cX1_hopsOf 24 = .ok (.ireturn, 1) := by decide +kernel
set_option maxRecDepth 20000 in
theorem ggX1_neighbourOf_X3_cell : GoodIn wsX1_neighbourOf wsX3_cell := goodIn_r _ [4] (by decide +kernel) (by decide +kernel)
set_option maxRecDepth 20000 in
theorem gX1_neighbourOf_X3_cell_n32 : GoodIn wsX1_neighbourOf (wsX3_cell) := ggX1_neighbourOf_X3_cell
theorem dX1_neighbourOf_0 : decode cX1_neighbourOf 0 = .ok (.aload_n 0, 1) := by decide +kernel
theorem dX1_neighbourOf_1 : decode cX1_neighbourOf 1 = .ok (.getfield 15, 3) := by decide +kernel
theorem dX1_neighbourOf_4 : decode cX1_neighbourOf 4 = .ok (.iload_n 1, 1) := by decide +kernel
theorem dX1_neighbourOf_5 : decode cX1_neighbourOf 5 = .ok (.iload_n 2, 1) := by decide +kernel
theorem dX1_neighbourOf_6 : decode cX1_neighbourOf 6 = .ok (.invokestatic 32, 3) := by decide +kernel
theorem dX1_neighbourOf_9 : decode cX1_neighbourOf 9 = .ok (.iaload, 1) := by decide +kernel
theorem dX1_neighbourOf_10 : decode cX1_neighbourOf 10 = .ok (.ireturn, 1) := by decide +kernel
set_option maxRecDepth 20000 in
theorem ggX1_readFrom_X2_digitAt : GoodIn wsX1_readFrom wsX2_digitAt := goodIn_r _ [9, 10, 11, 12, 8, 13, 14, 15, 16, 54, 55] (by decide +kernel) (by decide +kernel)
set_option maxRecDepth 20000 in
theorem gX1_readFrom_X2_digitAt : GoodIn wsX1_readFrom (wsV RX1 37 RX2 yX2_digitAt wsX2_digitAt) := goodIn_app (goodIn_of _ (by decide +kernel)) ggX1_readFrom_X2_digitAt
set_option maxRecDepth 20000 in
theorem ggX1_readFrom_X2_howManyLinks : GoodIn wsX1_readFrom wsX2_howManyLinks := goodIn_r _ [20, 14, 54, 55] (by decide +kernel) (by decide +kernel)
set_option maxRecDepth 20000 in
theorem gX1_readFrom_X2_howManyLinks : GoodIn wsX1_readFrom (wsV RX1 43 RX2 yX2_howManyLinks wsX2_howManyLinks) := goodIn_app (goodIn_of _ (by decide +kernel)) ggX1_readFrom_X2_howManyLinks
set_option maxRecDepth 20000 in
theorem ggX1_readFrom_X3_cell : GoodIn wsX1_readFrom wsX3_cell := goodIn_r _ [23] (by decide +kernel) (by decide +kernel)
set_option maxRecDepth 20000 in
theorem gX1_readFrom_X3_cell_n32 : GoodIn wsX1_readFrom (wsX3_cell) := ggX1_readFrom_X3_cell
set_option maxRecDepth 20000 in
theorem ggX1_readFrom_X2_placeOfLink : GoodIn wsX1_readFrom wsX2_placeOfLink := goodIn_r _ [26] (by decide +kernel) (by decide +kernel)
set_option maxRecDepth 20000 in
theorem gX1_readFrom_X2_placeOfLink : GoodIn wsX1_readFrom (va_wsS RX1 47 yX2_placeOfLink wsX2_placeOfLink) := goodIn_app (goodIn_of _ (by decide +kernel)) ggX1_readFrom_X2_placeOfLink
set_option maxRecDepth 20000 in
theorem ggX1_readFrom_X1_join : GoodIn wsX1_readFrom wsX1_join := goodIn_r _ [31, 32, 33, 34, 30, 35, 1, 36, 37, 38, 39, 3, 40, 4, 21, 22, 23, 49, 50, 51, 52, 53] (by decide +kernel) (by decide +kernel)
set_option maxRecDepth 20000 in
theorem gX1_readFrom_X1_join : GoodIn wsX1_readFrom (wsV RX1 50 RX1 yX1_join wsX1_join) := goodIn_app (goodIn_of _ (by decide +kernel)) ggX1_readFrom_X1_join
set_option maxRecDepth 20000 in
theorem ggX1_readFrom_X1_shortenWays : GoodIn wsX1_readFrom wsX1_shortenWays := goodIn_r _ [44, 1, 4, 45, 46, 47, 48, 21, 22, 23, 49, 50, 51, 52, 53] (by decide +kernel) (by decide +kernel)
set_option maxRecDepth 20000 in
theorem gX1_readFrom_X1_shortenWays : GoodIn wsX1_readFrom (wsV RX1 54 RX1 yX1_shortenWays wsX1_shortenWays) := goodIn_app (goodIn_of _ (by decide +kernel)) ggX1_readFrom_X1_shortenWays
theorem dX1_readFrom_0 : decode cX1_readFrom 0 = .ok (.aload_n 0, 1) := by decide +kernel
theorem dX1_readFrom_1 : decode cX1_readFrom 1 = .ok (.aload_n 1, 1) := by decide +kernel
theorem dX1_readFrom_2 : decode cX1_readFrom 2 = .ok (.iconst 0, 1) := by decide +kernel
theorem dX1_readFrom_3 : decode cX1_readFrom 3 = .ok (.invokevirtual 37, 3) := by decide +kernel
theorem dX1_readFrom_6 : decode cX1_readFrom 6 = .ok (.putfield 21, 3) := by decide +kernel
theorem dX1_readFrom_9 : decode cX1_readFrom 9 = .ok (.aload_n 0, 1) := by decide +kernel
theorem dX1_readFrom_10 : decode cX1_readFrom 10 = .ok (.aload_n 1, 1) := by decide +kernel
theorem dX1_readFrom_11 : decode cX1_readFrom 11 = .ok (.invokevirtual 43, 3) := by decide +kernel
theorem dX1_readFrom_14 : decode cX1_readFrom 14 = .ok (.putfield 25, 3) := by decide +kernel
theorem dX1_readFrom_17 : decode cX1_readFrom 17 = .ok (.iconst 0, 1) := by decide +kernel
theorem dX1_readFrom_18 : decode cX1_readFrom 18 = .ok (.istore_n 2, 1) := by decide +kernel
theorem dX1_readFrom_19 : decode cX1_readFrom 19 = .ok (.iload_n 2, 1) := by decide +kernel
theorem dX1_readFrom_20 : decode cX1_readFrom 20 = .ok (.bipush 6, 2) := by decide +kernel
theorem dX1_readFrom_22 : decode cX1_readFrom 22 = .ok (.if_icmp .ge 52, 3) := by decide +kernel
theorem dX1_readFrom_25 : decode cX1_readFrom 25 = .ok (.aload_n 0, 1) := by decide +kernel
theorem dX1_readFrom_26 : decode cX1_readFrom 26 = .ok (.getfield 9, 3) := by decide +kernel
theorem dX1_readFrom_29 : decode cX1_readFrom 29 = .ok (.iload_n 2, 1) := by decide +kernel
theorem dX1_readFrom_30 : decode cX1_readFrom 30 = .ok (.iconst 0, 1) := by decide +kernel
theorem dX1_readFrom_31 : decode cX1_readFrom 31 = .ok (.iastore, 1) := by decide +kernel
theorem dX1_readFrom_32 : decode cX1_readFrom 32 = .ok (.iconst 0, 1) := by decide +kernel
theorem dX1_readFrom_33 : decode cX1_readFrom 33 = .ok (.istore_n 3, 1) := by decide +kernel
theorem dX1_readFrom_34 : decode cX1_readFrom 34 = .ok (.iload_n 3, 1) := by decide +kernel
theorem dX1_readFrom_35 : decode cX1_readFrom 35 = .ok (.bipush 6, 2) := by decide +kernel
theorem dX1_readFrom_37 : decode cX1_readFrom 37 = .ok (.if_icmp .ge 31, 3) := by decide +kernel
theorem dX1_readFrom_40 : decode cX1_readFrom 40 = .ok (.aload_n 0, 1) := by decide +kernel
theorem dX1_readFrom_41 : decode cX1_readFrom 41 = .ok (.getfield 18, 3) := by decide +kernel
theorem dX1_readFrom_44 : decode cX1_readFrom 44 = .ok (.iload_n 2, 1) := by decide +kernel
theorem dX1_readFrom_45 : decode cX1_readFrom 45 = .ok (.iload_n 3, 1) := by decide +kernel
theorem dX1_readFrom_46 : decode cX1_readFrom 46 = .ok (.invokestatic 32, 3) := by decide +kernel
theorem dX1_readFrom_49 : decode cX1_readFrom 49 = .ok (.iload_n 2, 1) := by decide +kernel
theorem dX1_readFrom_50 : decode cX1_readFrom 50 = .ok (.iload_n 3, 1) := by decide +kernel
theorem dX1_readFrom_51 : decode cX1_readFrom 51 = .ok (.if_icmp .ne 7, 3) := by decide +kernel
theorem dX1_readFrom_54 : decode cX1_readFrom 54 = .ok (.iconst 0, 1) := by decide +kernel
theorem dX1_readFrom_55 : decode cX1_readFrom 55 = .ok (.goto 6, 3) := by decide +kernel
theorem dX1_readFrom_58 : decode cX1_readFrom 58 = .ok (.sipush 1000, 3) := by decide +kernel
theorem dX1_readFrom_61 : decode cX1_readFrom 61 = .ok (.iastore, 1) := by decide +kernel
theorem dX1_readFrom_62 : decode cX1_readFrom 62 = .ok (.iinc 3 1, 3) := by decide +kernel
theorem dX1_readFrom_65 : decode cX1_readFrom 65 = .ok (.goto (-31), 3) := by decide +kernel
theorem dX1_readFrom_68 : decode cX1_readFrom 68 = .ok (.iinc 2 1, 3) := by decide +kernel
theorem dX1_readFrom_71 : decode cX1_readFrom 71 = .ok (.goto (-52), 3) := by decide +kernel
theorem dX1_readFrom_74 : decode cX1_readFrom 74 = .ok (.iconst 0, 1) := by decide +kernel
theorem dX1_readFrom_75 : decode cX1_readFrom 75 = .ok (.istore_n 2, 1) := by decide +kernel
theorem dX1_readFrom_76 : decode cX1_readFrom 76 = .ok (.iload_n 2, 1) := by decide +kernel
theorem dX1_readFrom_77 : decode cX1_readFrom 77 = .ok (.aload_n 0, 1) := by decide +kernel
theorem dX1_readFrom_78 : decode cX1_readFrom 78 = .ok (.getfield 25, 3) := by decide +kernel
theorem dX1_readFrom_81 : decode cX1_readFrom 81 = .ok (.if_icmp .ge 30, 3) := by decide +kernel
theorem dX1_readFrom_84 : decode cX1_readFrom 84 = .ok (.iload_n 2, 1) := by decide +kernel
theorem dX1_readFrom_85 : decode cX1_readFrom 85 = .ok (.invokestatic 47, 3) := by decide +kernel
theorem dX1_readFrom_88 : decode cX1_readFrom 88 = .ok (.istore_n 3, 1) := by decide +kernel
theorem dX1_readFrom_89 : decode cX1_readFrom 89 = .ok (.aload_n 0, 1) := by decide +kernel
theorem dX1_readFrom_90 : decode cX1_readFrom 90 = .ok (.aload_n 1, 1) := by decide +kernel
theorem dX1_readFrom_91 : decode cX1_readFrom 91 = .ok (.iload_n 3, 1) := by decide +kernel
theorem dX1_readFrom_92 : decode cX1_readFrom 92 = .ok (.invokevirtual 37, 3) := by decide +kernel
theorem dX1_readFrom_95 : decode cX1_readFrom 95 = .ok (.aload_n 1, 1) := by decide +kernel
theorem dX1_readFrom_96 : decode cX1_readFrom 96 = .ok (.iload_n 3, 1) := by decide +kernel
theorem dX1_readFrom_97 : decode cX1_readFrom 97 = .ok (.iconst 1, 1) := by decide +kernel
theorem dX1_readFrom_98 : decode cX1_readFrom 98 = .ok (.iadd, 1) := by decide +kernel
theorem dX1_readFrom_99 : decode cX1_readFrom 99 = .ok (.invokevirtual 37, 3) := by decide +kernel
theorem dX1_readFrom_102 : decode cX1_readFrom 102 = .ok (.invokevirtual 50, 3) := by decide +kernel
theorem dX1_readFrom_105 : decode cX1_readFrom 105 = .ok (.iinc 2 1, 3) := by decide +kernel
theorem dX1_readFrom_108 : decode cX1_readFrom 108 = .ok (.goto (-32), 3) := by decide +kernel
theorem dX1_readFrom_111 : decode cX1_readFrom 111 = .ok (.aload_n 0, 1) := by decide +kernel
theorem dX1_readFrom_112 : decode cX1_readFrom 112 = .ok (.invokevirtual 54, 3) := by decide +kernel
theorem dX1_readFrom_115 : decode cX1_readFrom 115 = .ok (.return_, 1) := by decide +kernel
set_option maxRecDepth 20000 in
theorem ggX1_join_X1_hasNode : GoodIn wsX1_join wsX1_hasNode := goodIn_r _ [5, 6, 17, 18, 19, 20, 21] (by decide +kernel) (by decide +kernel)
set_option maxRecDepth 20000 in
theorem gX1_join_X1_hasNode : GoodIn wsX1_join (wsV RX1 28 RX1 yX1_hasNode wsX1_hasNode) := goodIn_app (goodIn_of _ (by decide +kernel)) ggX1_join_X1_hasNode
set_option maxRecDepth 20000 in
theorem ggX1_join_X1_addNeighbour : GoodIn wsX1_join wsX1_addNeighbour := goodIn_r _ [10, 11, 12, 13, 14, 15, 16, 17, 18, 19, 20, 21] (by decide +kernel) (by decide +kernel)
set_option maxRecDepth 20000 in
theorem gX1_join_X1_addNeighbour : GoodIn wsX1_join (wsV RX1 57 RX1 yX1_addNeighbour wsX1_addNeighbour) := goodIn_app (goodIn_of _ (by decide +kernel)) ggX1_join_X1_addNeighbour
theorem dX1_join_0 : decode cX1_join 0 = .ok (.aload_n 0, 1) := by decide +kernel
theorem dX1_join_1 : decode cX1_join 1 = .ok (.iload_n 1, 1) := by decide +kernel
theorem dX1_join_2 : decode cX1_join 2 = .ok (.invokevirtual 28, 3) := by decide +kernel
theorem dX1_join_5 : decode cX1_join 5 = .ok (.ifCond .eq 23, 3) := by decide +kernel
theorem dX1_join_8 : decode cX1_join 8 = .ok (.aload_n 0, 1) := by decide +kernel
theorem dX1_join_9 : decode cX1_join 9 = .ok (.iload_n 2, 1) := by decide +kernel
theorem dX1_join_10 : decode cX1_join 10 = .ok (.invokevirtual 28, 3) := by decide +kernel
theorem dX1_join_13 : decode cX1_join 13 = .ok (.ifCond .eq 15, 3) := by decide +kernel
theorem dX1_join_16 : decode cX1_join 16 = .ok (.aload_n 0, 1) := by decide +kernel
theorem dX1_join_17 : decode cX1_join 17 = .ok (.iload_n 1, 1) := by decide +kernel
theorem dX1_join_18 : decode cX1_join 18 = .ok (.iload_n 2, 1) := by decide +kernel
theorem dX1_join_19 : decode cX1_join 19 = .ok (.invokevirtual 57, 3) := by decide +kernel
theorem dX1_join_22 : decode cX1_join 22 = .ok (.aload_n 0, 1) := by decide +kernel
theorem dX1_join_23 : decode cX1_join 23 = .ok (.iload_n 2, 1) := by decide +kernel
theorem dX1_join_24 : decode cX1_join 24 = .ok (.iload_n 1, 1) := by decide +kernel
theorem dX1_join_25 : decode cX1_join 25 = .ok (.invokevirtual 57, 3) := by decide +kernel
theorem dX1_join_28 : decode cX1_join 28 = .ok (.return_, 1) := by decide +kernel
set_option maxRecDepth 20000 in
theorem ggX1_addNeighbour_X3_cell : GoodIn wsX1_addNeighbour wsX3_cell := goodIn_r _ [6] (by decide +kernel) (by decide +kernel)
set_option maxRecDepth 20000 in
theorem gX1_addNeighbour_X3_cell_n32 : GoodIn wsX1_addNeighbour (wsX3_cell) := ggX1_addNeighbour_X3_cell
theorem dX1_addNeighbour_0 : decode cX1_addNeighbour 0 = .ok (.aload_n 0, 1) := by decide +kernel
theorem dX1_addNeighbour_1 : decode cX1_addNeighbour 1 = .ok (.getfield 9, 3) := by decide +kernel
theorem dX1_addNeighbour_4 : decode cX1_addNeighbour 4 = .ok (.iload_n 1, 1) := by decide +kernel
theorem dX1_addNeighbour_5 : decode cX1_addNeighbour 5 = .ok (.iaload, 1) := by decide +kernel
theorem dX1_addNeighbour_6 : decode cX1_addNeighbour 6 = .ok (.bipush 6, 2) := by decide +kernel
theorem dX1_addNeighbour_8 : decode cX1_addNeighbour 8 = .ok (.if_icmp .ge 40, 3) := by decide +kernel
theorem dX1_addNeighbour_11 : decode cX1_addNeighbour 11 = .ok (.aload_n 0, 1) := by decide +kernel
theorem dX1_addNeighbour_12 : decode cX1_addNeighbour 12 = .ok (.getfield 15, 3) := by decide +kernel
theorem dX1_addNeighbour_15 : decode cX1_addNeighbour 15 = .ok (.iload_n 1, 1) := by decide +kernel
theorem dX1_addNeighbour_16 : decode cX1_addNeighbour 16 = .ok (.aload_n 0, 1) := by decide +kernel
theorem dX1_addNeighbour_17 : decode cX1_addNeighbour 17 = .ok (.getfield 9, 3) := by decide +kernel
theorem dX1_addNeighbour_20 : decode cX1_addNeighbour 20 = .ok (.iload_n 1, 1) := by decide +kernel
theorem dX1_addNeighbour_21 : decode cX1_addNeighbour 21 = .ok (.iaload, 1) := by decide +kernel
theorem dX1_addNeighbour_22 : decode cX1_addNeighbour 22 = .ok (.invokestatic 32, 3) := by decide +kernel
theorem dX1_addNeighbour_25 : decode cX1_addNeighbour 25 = .ok (.iload_n 2, 1) := by decide +kernel
theorem dX1_addNeighbour_26 : decode cX1_addNeighbour 26 = .ok (.iastore, 1) := by decide +kernel
theorem dX1_addNeighbour_27 : decode cX1_addNeighbour 27 = .ok (.aload_n 0, 1) := by decide +kernel
theorem dX1_addNeighbour_28 : decode cX1_addNeighbour 28 = .ok (.getfield 9, 3) := by decide +kernel
theorem dX1_addNeighbour_31 : decode cX1_addNeighbour 31 = .ok (.iload_n 1, 1) := by decide +kernel
theorem dX1_addNeighbour_32 : decode cX1_addNeighbour 32 = .ok (.dup2, 1) := by decide +kernel
theorem dX1_addNeighbour_33 : decode cX1_addNeighbour 33 = .ok (.iaload, 1) := by decide +kernel
theorem dX1_addNeighbour_34 : decode cX1_addNeighbour 34 = .ok (.iconst 1, 1) := by decide +kernel
theorem dX1_addNeighbour_35 : decode cX1_addNeighbour 35 = .ok (.iadd, 1) := by decide +kernel
theorem dX1_addNeighbour_36 : decode cX1_addNeighbour 36 = .ok (.iastore, 1) := by decide +kernel
theorem dX1_addNeighbour_37 : decode cX1_addNeighbour 37 = .ok (.aload_n 0, 1) := by decide +kernel
theorem dX1_addNeighbour_38 : decode cX1_addNeighbour 38 = .ok (.getfield 18, 3) := by decide +kernel
theorem dX1_addNeighbour_41 : decode cX1_addNeighbour 41 = .ok (.iload_n 1, 1) := by decide +kernel
theorem dX1_addNeighbour_42 : decode cX1_addNeighbour 42 = .ok (.iload_n 2, 1) := by decide +kernel
theorem dX1_addNeighbour_43 : decode cX1_addNeighbour 43 = .ok (.invokestatic 32, 3) := by decide +kernel
theorem dX1_addNeighbour_46 : decode cX1_addNeighbour 46 = .ok (.iconst 1, 1) := by decide +kernel
theorem dX1_addNeighbour_47 : decode cX1_addNeighbour 47 = .ok (.iastore, 1) := by decide +kernel
theorem dX1_addNeighbour_48 : decode cX1_addNeighbour 48 = .ok (.return_, 1) := by decide +kernel
set_option maxRecDepth 20000 in
theorem ggX1_shortenWays_X3_cell : GoodIn wsX1_shortenWays wsX3_cell := goodIn_r _ [9] (by decide +kernel) (by decide +kernel)
set_option maxRecDepth 20000 in
theorem gX1_shortenWays_X3_cell_n32 : GoodIn wsX1_shortenWays (wsX3_cell) := ggX1_shortenWays_X3_cell
theorem dX1_shortenWays_0 : decode cX1_shortenWays 0 = .ok (.iconst 0, 1) := by decide +kernel
theorem dX1_shortenWays_1 : decode cX1_shortenWays 1 = .ok (.istore_n 1, 1) := by decide +kernel
theorem dX1_shortenWays_2 : decode cX1_shortenWays 2 = .ok (.iload_n 1, 1) := by decide +kernel
theorem dX1_shortenWays_3 : decode cX1_shortenWays 3 = .ok (.aload_n 0, 1) := by decide +kernel
theorem dX1_shortenWays_4 : decode cX1_shortenWays 4 = .ok (.getfield 21, 3) := by decide +kernel
theorem dX1_shortenWays_7 : decode cX1_shortenWays 7 = .ok (.if_icmp .ge 89, 3) := by decide +kernel
theorem dX1_shortenWays_10 : decode cX1_shortenWays 10 = .ok (.iconst 0, 1) := by decide +kernel
theorem dX1_shortenWays_11 : decode cX1_shortenWays 11 = .ok (.istore_n 2, 1) := by decide +kernel
theorem dX1_shortenWays_12 : decode cX1_shortenWays 12 = .ok (.iload_n 2, 1) := by decide +kernel
theorem dX1_shortenWays_13 : decode cX1_shortenWays 13 = .ok (.aload_n 0, 1) := by decide +kernel
theorem dX1_shortenWays_14 : decode cX1_shortenWays 14 = .ok (.getfield 21, 3) := by decide +kernel
theorem dX1_shortenWays_17 : decode cX1_shortenWays 17 = .ok (.if_icmp .ge 73, 3) := by decide +kernel
theorem dX1_shortenWays_20 : decode cX1_shortenWays 20 = .ok (.iconst 0, 1) := by decide +kernel
theorem dX1_shortenWays_21 : decode cX1_shortenWays 21 = .ok (.istore_n 3, 1) := by decide +kernel
theorem dX1_shortenWays_22 : decode cX1_shortenWays 22 = .ok (.iload_n 3, 1) := by decide +kernel
theorem dX1_shortenWays_23 : decode cX1_shortenWays 23 = .ok (.aload_n 0, 1) := by decide +kernel
theorem dX1_shortenWays_24 : decode cX1_shortenWays 24 = .ok (.getfield 21, 3) := by decide +kernel
theorem dX1_shortenWays_27 : decode cX1_shortenWays 27 = .ok (.if_icmp .ge 57, 3) := by decide +kernel
theorem dX1_shortenWays_30 : decode cX1_shortenWays 30 = .ok (.aload_n 0, 1) := by decide +kernel
theorem dX1_shortenWays_31 : decode cX1_shortenWays 31 = .ok (.getfield 18, 3) := by decide +kernel
theorem dX1_shortenWays_34 : decode cX1_shortenWays 34 = .ok (.iload_n 2, 1) := by decide +kernel
theorem dX1_shortenWays_35 : decode cX1_shortenWays 35 = .ok (.iload_n 1, 1) := by decide +kernel
theorem dX1_shortenWays_36 : decode cX1_shortenWays 36 = .ok (.invokestatic 32, 3) := by decide +kernel
theorem dX1_shortenWays_39 : decode cX1_shortenWays 39 = .ok (.iaload, 1) := by decide +kernel
theorem dX1_shortenWays_40 : decode cX1_shortenWays 40 = .ok (.aload_n 0, 1) := by decide +kernel
theorem dX1_shortenWays_41 : decode cX1_shortenWays 41 = .ok (.getfield 18, 3) := by decide +kernel
theorem dX1_shortenWays_44 : decode cX1_shortenWays 44 = .ok (.iload_n 1, 1) := by decide +kernel
theorem dX1_shortenWays_45 : decode cX1_shortenWays 45 = .ok (.iload_n 3, 1) := by decide +kernel
theorem dX1_shortenWays_46 : decode cX1_shortenWays 46 = .ok (.invokestatic 32, 3) := by decide +kernel
theorem dX1_shortenWays_49 : decode cX1_shortenWays 49 = .ok (.iaload, 1) := by decide +kernel
theorem dX1_shortenWays_50 : decode cX1_shortenWays 50 = .ok (.iadd, 1) := by decide +kernel
theorem dX1_shortenWays_51 : decode cX1_shortenWays 51 = .ok (.istore 4, 2) := by decide +kernel
theorem dX1_shortenWays_53 : decode cX1_shortenWays 53 = .ok (.aload_n 0, 1) := by decide +kernel
theorem dX1_shortenWays_54 : decode cX1_shortenWays 54 = .ok (.getfield 18, 3) := by decide +kernel
theorem dX1_shortenWays_57 : decode cX1_shortenWays 57 = .ok (.iload_n 2, 1) := by decide +kernel
theorem dX1_shortenWays_58 : decode cX1_shortenWays 58 = .ok (.iload_n 3, 1) := by decide +kernel
theorem dX1_shortenWays_59 : decode cX1_shortenWays 59 = .ok (.invokestatic 32, 3) := by decide +kernel
theorem dX1_shortenWays_62 : decode cX1_shortenWays 62 = .ok (.aload_n 0, 1) := by decide +kernel
theorem dX1_shortenWays_63 : decode cX1_shortenWays 63 = .ok (.getfield 18, 3) := by decide +kernel
theorem dX1_shortenWays_66 : decode cX1_shortenWays 66 = .ok (.iload_n 2, 1) := by decide +kernel
theorem dX1_shortenWays_67 : decode cX1_shortenWays 67 = .ok (.iload_n 3, 1) := by decide +kernel
theorem dX1_shortenWays_68 : decode cX1_shortenWays 68 = .ok (.invokestatic 32, 3) := by decide +kernel
theorem dX1_shortenWays_71 : decode cX1_shortenWays 71 = .ok (.iaload, 1) := by decide +kernel
theorem dX1_shortenWays_72 : decode cX1_shortenWays 72 = .ok (.iload 4, 2) := by decide +kernel
theorem dX1_shortenWays_74 : decode cX1_shortenWays 74 = .ok (.invokestatic 60, 3) := by decide +kernel
theorem dX1_shortenWays_77 : decode cX1_shortenWays 77 = .ok (.iastore, 1) := by decide +kernel
theorem dX1_shortenWays_78 : decode cX1_shortenWays 78 = .ok (.iinc 3 1, 3) := by decide +kernel
theorem dX1_shortenWays_81 : decode cX1_shortenWays 81 = .ok (.goto (-59), 3) := by decide +kernel
theorem dX1_shortenWays_84 : decode cX1_shortenWays 84 = .ok (.iinc 2 1, 3) := by decide +kernel
theorem dX1_shortenWays_87 : decode cX1_shortenWays 87 = .ok (.goto (-75), 3) := by decide +kernel
theorem dX1_shortenWays_90 : decode cX1_shortenWays 90 = .ok (.iinc 1 1, 3) := by decide +kernel
theorem dX1_shortenWays_93 : decode cX1_shortenWays 93 = .ok (.goto (-91), 3) := by decide +kernel
theorem dX1_shortenWays_96 : decode cX1_shortenWays 96 = .ok (.return_, 1) := by decide +kernel
theorem dX2_init_0 : decode cX2_init 0 = .ok (.aload_n 0, 1) := by decide +kernel
theorem dX2_init_1 : decode cX2_init 1 = .ok (.invokespecial 3, 3) := by decide +kernel
theorem dX2_init_4 : decode cX2_init 4 = .ok (.aload_n 0, 1) := by decide +kernel
theorem dX2_init_5 : decode cX2_init 5 = .ok (.bipush 61, 2) := by decide +kernel
theorem dX2_init_7 : decode cX2_init 7 = .ok (.newarray .int, 2) := by decide +kernel
theorem dX2_init_9 : decode cX2_init 9 = .ok (.putfield 9, 3) := by decide +kernel
theorem dX2_init_12 : decode cX2_init 12 = .ok (.aload_n 0, 1) := by decide +kernel
theorem dX2_init_13 : decode cX2_init 13 = .ok (.iconst 0, 1) := by decide +kernel
theorem dX2_init_14 : decode cX2_init 14 = .ok (.putfield 15, 3) := by decide +kernel
theorem dX2_init_17 : decode cX2_init 17 = .ok (.return_, 1) := by decide +kernel
theorem dX2_isFull_0 : decode cX2_isFull 0 = .ok (.aload_n 0, 1) := by decide +kernel
theorem dX2_isFull_1 : decode cX2_isFull 1 = .ok (.getfield 15, 3) := by decide +kernel
theorem dX2_isFull_4 : decode cX2_isFull 4 = .ok (.bipush 61, 2) := by decide +kernel
theorem dX2_isFull_6 : decode cX2_isFull 6 = .ok (.if_icmp .lt 7, 3) := by decide +kernel
theorem dX2_isFull_9 : decode cX2_isFull 9 = .ok (.iconst 1, 1) := by decide +kernel
theorem dX2_isFull_10 : decode cX2_isFull 10 = .ok (.goto 4, 3) := by decide +kernel
theorem dX2_isFull_13 : decode cX2_isFull 13 = .ok (.iconst 0, 1) := by decide +kernel
theorem dX2_isFull_14 : decode cX2_isFull 14 = .ok (.ireturn, 1) := by decide +kernel
theorem dX2_append_0 : decode cX2_append 0 = .ok (.aload_n 0, 1) := by decide +kernel
theorem dX2_append_1 : decode cX2_append 1 = .ok (.getfield 15, 3) := by decide +kernel
theorem dX2_append_4 : decode cX2_append 4 = .ok (.bipush 61, 2) := by decide +kernel
theorem dX2_append_6 : decode cX2_append 6 = .ok (.if_icmp .ge 23, 3) := by decide +kernel
theorem dX2_append_9 : decode cX2_append 9 = .ok (.aload_n 0, 1) := by decide +kernel
theorem dX2_append_10 : decode cX2_append 10 = .ok (.getfield 9, 3) := by decide +kernel
theorem dX2_append_13 : decode cX2_append 13 = .ok (.aload_n 0, 1) := by decide +kernel
theorem dX2_append_14 : decode cX2_append 14 = .ok (.getfield 15, 3) := by decide +kernel
theorem dX2_append_17 : decode cX2_append 17 = .ok (.iload_n 1, 1) := by decide +kernel
theorem dX2_append_18 : decode cX2_append 18 = .ok (.iastore, 1) := by decide +kernel
theorem dX2_append_19 : decode cX2_append 19 = .ok (.aload_n 0, 1) := by decide +kernel
theorem dX2_append_20 : decode cX2_append 20 = .ok (.dup, 1) := by decide +kernel
theorem dX2_append_21 : decode cX2_append 21 = .ok (.getfield 15, 3) := by decide +kernel
theorem dX2_append_24 : decode cX2_append 24 = .ok (.iconst 1, 1) := by decide +kernel
theorem dX2_append_25 : decode cX2_append 25 = .ok (.iadd, 1) := by decide +kernel
theorem dX2_append_26 : decode cX2_append 26 = .ok (.putfield 15, 3) := by decide +kernel
theorem dX2_append_29 : decode cX2_append 29 = .ok (.aload_n 0, 1) := by decide +kernel
theorem dX2_append_30 : decode cX2_append 30 = .ok (.getfield 15, 3) := by decide +kernel
theorem dX2_append_33 : decode cX2_append 33 = .ok (.ireturn, 1) := by decide +kernel
theorem dX2_empty_0 : decode cX2_empty 0 = .ok (.aload_n 0, 1) := by decide +kernel
theorem dX2_empty_1 : decode cX2_empty 1 = .ok (.getfield 15, 3) := by decide +kernel
theorem dX2_empty_4 : decode cX2_empty 4 = .ok (.istore_n 1, 1) := by decide +kernel
theorem dX2_empty_5 : decode cX2_empty 5 = .ok (.aload_n 0, 1) := by decide +kernel
theorem dX2_empty_6 : decode cX2_empty 6 = .ok (.iconst 0, 1) := by decide +kernel
theorem dX2_empty_7 : decode cX2_empty 7 = .ok (.putfield 15, 3) := by decide +kernel
theorem dX2_empty_10 : decode cX2_empty 10 = .ok (.iload_n 1, 1) := by decide +kernel
theorem dX2_empty_11 : decode cX2_empty 11 = .ok (.ireturn, 1) := by decide +kernel
theorem dX2_letterAt_0 : decode cX2_letterAt 0 = .ok (.iload_n 1, 1) := by decide +kernel
theorem dX2_letterAt_1 : decode cX2_letterAt 1 = .ok (.ifCond .lt 20, 3) := by decide +kernel
theorem dX2_letterAt_4 : decode cX2_letterAt 4 = .ok (.iload_n 1, 1) := by decide +kernel
theorem dX2_letterAt_5 : decode cX2_letterAt 5 = .ok (.aload_n 0, 1) := by decide +kernel
theorem dX2_letterAt_6 : decode cX2_letterAt 6 = .ok (.getfield 15, 3) := by decide +kernel
theorem dX2_letterAt_9 : decode cX2_letterAt 9 = .ok (.if_icmp .ge 12, 3) := by decide +kernel
theorem dX2_letterAt_12 : decode cX2_letterAt 12 = .ok (.aload_n 0, 1) := by decide +kernel
theorem dX2_letterAt_13 : decode cX2_letterAt 13 = .ok (.getfield 9, 3) := by decide +kernel
theorem dX2_letterAt_16 : decode cX2_letterAt 16 = .ok (.iload_n 1, 1) := by decide +kernel
theorem dX2_letterAt_17 : decode cX2_letterAt 17 = .ok (.iaload, 1) := by decide +kernel
theorem dX2_letterAt_18 : decode cX2_letterAt 18 = .ok (.goto 5, 3) := by decide +kernel
theorem dX2_letterAt_21 : decode cX2_letterAt 21 = .ok (.ldc 19, 2) := by decide +kernel
theorem dX2_letterAt_23 : decode cX2_letterAt 23 = .ok (.ireturn, 1) := by decide +kernel
set_option maxRecDepth 20000 in
theorem ggX2_digitAt_X2_letterAt : GoodIn wsX2_digitAt wsX2_letterAt := goodIn_r _ [5, 6, 7, 8, 9, 10] (by decide +kernel) (by decide +kernel)
set_option maxRecDepth 20000 in
theorem gX2_digitAt_X2_letterAt : GoodIn wsX2_digitAt (wsV RX2 20 RX2 yX2_letterAt wsX2_letterAt) := goodIn_app (goodIn_of _ (by decide +kernel)) ggX2_digitAt_X2_letterAt
theorem dX2_digitAt_0 : decode cX2_digitAt 0 = .ok (.aload_n 0, 1) := by decide +kernel
theorem dX2_digitAt_1 : decode cX2_digitAt 1 = .ok (.iload_n 1, 1) := by decide +kernel
theorem dX2_digitAt_2 : decode cX2_digitAt 2 = .ok (.invokevirtual 20, 3) := by decide +kernel
theorem dX2_digitAt_5 : decode cX2_digitAt 5 = .ok (.bipush 48, 2) := by decide +kernel
theorem dX2_digitAt_7 : decode cX2_digitAt 7 = .ok (.isub, 1) := by decide +kernel
theorem dX2_digitAt_8 : decode cX2_digitAt 8 = .ok (.ireturn, 1) := by decide +kernel
set_option maxRecDepth 20000 in
theorem ggX2_firstFault_X2_fitsAt : GoodIn wsX2_firstFault wsX2_fitsAt := goodIn_r _ [6, 7, 8, 9, 5, 10, 11, 12, 13, 14, 1, 15, 16, 17, 18, 19, 20, 21, 22, 23, 24, 25, 26, 27, 28, 29] (by decide +kernel) (by decide +kernel)
set_option maxRecDepth 20000 in
theorem gX2_firstFault_X2_fitsAt : GoodIn wsX2_firstFault (wsV RX2 24 RX2 yX2_fitsAt wsX2_fitsAt) := goodIn_app (goodIn_of _ (by decide +kernel)) ggX2_firstFault_X2_fitsAt
