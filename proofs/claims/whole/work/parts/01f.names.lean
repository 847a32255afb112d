theorem dX4_image_10 : decode cX4_image 10 = .ok (.aload_n 0, 1) := by decide +kernel
theorem dX4_image_11 : decode cX4_image 11 = .ok (.iconst 1, 1) := by decide +kernel
theorem dX4_image_12 : decode cX4_image 12 = .ok (.putfield 128, 3) := by decide +kernel
theorem dX4_image_15 : decode cX4_image 15 = .ok (.aload_n 0, 1) := by decide +kernel
theorem dX4_image_16 : decode cX4_image 16 = .ok (.aload_n 0, 1) := by decide +kernel
theorem dX4_image_17 : decode cX4_image 17 = .ok (.getfield 122, 3) := by decide +kernel
theorem dX4_image_20 : decode cX4_image 20 = .ok (.putfield 221, 3) := by decide +kernel
theorem dX4_image_23 : decode cX4_image 23 = .ok (.aload_n 0, 1) := by decide +kernel
theorem dX4_image_24 : decode cX4_image 24 = .ok (.aload_n 0, 1) := by decide +kernel
theorem dX4_image_25 : decode cX4_image 25 = .ok (.getfield 125, 3) := by decide +kernel
theorem dX4_image_28 : decode cX4_image 28 = .ok (.putfield 224, 3) := by decide +kernel
theorem dX4_image_31 : decode cX4_image 31 = .ok (.iconst 0, 1) := by decide +kernel
theorem dX4_image_32 : decode cX4_image 32 = .ok (.istore_n 1, 1) := by decide +kernel
theorem dX4_image_33 : decode cX4_image 33 = .ok (.iload_n 1, 1) := by decide +kernel
theorem dX4_image_34 : decode cX4_image 34 = .ok (.bipush 24, 2) := by decide +kernel
theorem dX4_image_36 : decode cX4_image 36 = .ok (.if_icmp .ge 21, 3) := by decide +kernel
theorem dX4_image_39 : decode cX4_image 39 = .ok (.aload_n 0, 1) := by decide +kernel
theorem dX4_image_40 : decode cX4_image 40 = .ok (.getfield 57, 3) := by decide +kernel
theorem dX4_image_43 : decode cX4_image 43 = .ok (.iload_n 1, 1) := by decide +kernel
theorem dX4_image_44 : decode cX4_image 44 = .ok (.aload_n 0, 1) := by decide +kernel
theorem dX4_image_45 : decode cX4_image 45 = .ok (.getfield 22, 3) := by decide +kernel
theorem dX4_image_48 : decode cX4_image 48 = .ok (.iload_n 1, 1) := by decide +kernel
theorem dX4_image_49 : decode cX4_image 49 = .ok (.iaload, 1) := by decide +kernel
theorem dX4_image_50 : decode cX4_image 50 = .ok (.iastore, 1) := by decide +kernel
theorem dX4_image_51 : decode cX4_image 51 = .ok (.iinc 1 1, 3) := by decide +kernel
theorem dX4_image_54 : decode cX4_image 54 = .ok (.goto (-21), 3) := by decide +kernel
theorem dX4_image_57 : decode cX4_image 57 = .ok (.iconst 0, 1) := by decide +kernel
theorem dX4_image_58 : decode cX4_image 58 = .ok (.istore_n 1, 1) := by decide +kernel
theorem dX4_image_59 : decode cX4_image 59 = .ok (.iload_n 1, 1) := by decide +kernel
theorem dX4_image_60 : decode cX4_image 60 = .ok (.bipush 36, 2) := by decide +kernel
theorem dX4_image_62 : decode cX4_image 62 = .ok (.if_icmp .ge 33, 3) := by decide +kernel
theorem dX4_image_65 : decode cX4_image 65 = .ok (.aload_n 0, 1) := by decide +kernel
theorem dX4_image_66 : decode cX4_image 66 = .ok (.getfield 63, 3) := by decide +kernel
theorem dX4_image_69 : decode cX4_image 69 = .ok (.iload_n 1, 1) := by decide +kernel
theorem dX4_image_70 : decode cX4_image 70 = .ok (.aload_n 0, 1) := by decide +kernel
theorem dX4_image_71 : decode cX4_image 71 = .ok (.getfield 16, 3) := by decide +kernel
theorem dX4_image_74 : decode cX4_image 74 = .ok (.iload_n 1, 1) := by decide +kernel
theorem dX4_image_75 : decode cX4_image 75 = .ok (.iaload, 1) := by decide +kernel
theorem dX4_image_76 : decode cX4_image 76 = .ok (.iastore, 1) := by decide +kernel
theorem dX4_image_77 : decode cX4_image 77 = .ok (.aload_n 0, 1) := by decide +kernel
theorem dX4_image_78 : decode cX4_image 78 = .ok (.getfield 66, 3) := by decide +kernel
theorem dX4_image_81 : decode cX4_image 81 = .ok (.iload_n 1, 1) := by decide +kernel
theorem dX4_image_82 : decode cX4_image 82 = .ok (.aload_n 0, 1) := by decide +kernel
theorem dX4_image_83 : decode cX4_image 83 = .ok (.getfield 13, 3) := by decide +kernel
theorem dX4_image_86 : decode cX4_image 86 = .ok (.iload_n 1, 1) := by decide +kernel
theorem dX4_image_87 : decode cX4_image 87 = .ok (.iaload, 1) := by decide +kernel
theorem dX4_image_88 : decode cX4_image 88 = .ok (.iastore, 1) := by decide +kernel
theorem dX4_image_89 : decode cX4_image 89 = .ok (.iinc 1 1, 3) := by decide +kernel
theorem dX4_image_92 : decode cX4_image 92 = .ok (.goto (-33), 3) := by decide +kernel
theorem dX4_image_95 : decode cX4_image 95 = .ok (.iconst 0, 1) := by decide +kernel
theorem dX4_image_96 : decode cX4_image 96 = .ok (.istore_n 1, 1) := by decide +kernel
theorem dX4_image_97 : decode cX4_image 97 = .ok (.iload_n 1, 1) := by decide +kernel
theorem dX4_image_98 : decode cX4_image 98 = .ok (.bipush 6, 2) := by decide +kernel
theorem dX4_image_100 : decode cX4_image 100 = .ok (.if_icmp .ge 45, 3) := by decide +kernel
theorem dX4_image_103 : decode cX4_image 103 = .ok (.aload_n 0, 1) := by decide +kernel
theorem dX4_image_104 : decode cX4_image 104 = .ok (.getfield 60, 3) := by decide +kernel
theorem dX4_image_107 : decode cX4_image 107 = .ok (.iload_n 1, 1) := by decide +kernel
theorem dX4_image_108 : decode cX4_image 108 = .ok (.aload_n 0, 1) := by decide +kernel
theorem dX4_image_109 : decode cX4_image 109 = .ok (.getfield 19, 3) := by decide +kernel
theorem dX4_image_112 : decode cX4_image 112 = .ok (.iload_n 1, 1) := by decide +kernel
theorem dX4_image_113 : decode cX4_image 113 = .ok (.iaload, 1) := by decide +kernel
theorem dX4_image_114 : decode cX4_image 114 = .ok (.iastore, 1) := by decide +kernel
theorem dX4_image_115 : decode cX4_image 115 = .ok (.aload_n 0, 1) := by decide +kernel
theorem dX4_image_116 : decode cX4_image 116 = .ok (.getfield 69, 3) := by decide +kernel
theorem dX4_image_119 : decode cX4_image 119 = .ok (.iload_n 1, 1) := by decide +kernel
theorem dX4_image_120 : decode cX4_image 120 = .ok (.aload_n 0, 1) := by decide +kernel
theorem dX4_image_121 : decode cX4_image 121 = .ok (.getfield 25, 3) := by decide +kernel
theorem dX4_image_124 : decode cX4_image 124 = .ok (.iload_n 1, 1) := by decide +kernel
theorem dX4_image_125 : decode cX4_image 125 = .ok (.baload, 1) := by decide +kernel
theorem dX4_image_126 : decode cX4_image 126 = .ok (.bastore, 1) := by decide +kernel
theorem dX4_image_127 : decode cX4_image 127 = .ok (.aload_n 0, 1) := by decide +kernel
theorem dX4_image_128 : decode cX4_image 128 = .ok (.getfield 72, 3) := by decide +kernel
theorem dX4_image_131 : decode cX4_image 131 = .ok (.iload_n 1, 1) := by decide +kernel
theorem dX4_image_132 : decode cX4_image 132 = .ok (.aload_n 0, 1) := by decide +kernel
theorem dX4_image_133 : decode cX4_image 133 = .ok (.getfield 29, 3) := by decide +kernel
theorem dX4_image_136 : decode cX4_image 136 = .ok (.iload_n 1, 1) := by decide +kernel
theorem dX4_image_137 : decode cX4_image 137 = .ok (.iaload, 1) := by decide +kernel
theorem dX4_image_138 : decode cX4_image 138 = .ok (.iastore, 1) := by decide +kernel
theorem dX4_image_139 : decode cX4_image 139 = .ok (.iinc 1 1, 3) := by decide +kernel
theorem dX4_image_142 : decode cX4_image 142 = .ok (.goto (-45), 3) := by decide +kernel
theorem dX4_image_145 : decode cX4_image 145 = .ok (.aload_n 0, 1) := by decide +kernel
theorem dX4_image_146 : decode cX4_image 146 = .ok (.getfield 122, 3) := by decide +kernel
theorem dX4_image_149 : decode cX4_image 149 = .ok (.ireturn, 1) := by decide +kernel
theorem dX4_restore_0 : decode cX4_restore 0 = .ok (.aload_n 0, 1) := by decide +kernel
theorem dX4_restore_1 : decode cX4_restore 1 = .ok (.getfield 128, 3) := by decide +kernel
theorem dX4_restore_4 : decode cX4_restore 4 = .ok (.ifCond .ne 6, 3) := by decide +kernel
theorem dX4_restore_7 : decode cX4_restore 7 = .ok (.ldc 111, 2) := by decide +kernel
theorem dX4_restore_9 : decode cX4_restore 9 = .ok (.ireturn, 1) := by decide +kernel
theorem dX4_restore_10 : decode cX4_restore 10 = .ok (.aload_n 0, 1) := by decide +kernel
theorem dX4_restore_11 : decode cX4_restore 11 = .ok (.aload_n 0, 1) := by decide +kernel
theorem dX4_restore_12 : decode cX4_restore 12 = .ok (.getfield 221, 3) := by decide +kernel
theorem dX4_restore_15 : decode cX4_restore 15 = .ok (.putfield 122, 3) := by decide +kernel
theorem dX4_restore_18 : decode cX4_restore 18 = .ok (.aload_n 0, 1) := by decide +kernel
theorem dX4_restore_19 : decode cX4_restore 19 = .ok (.aload_n 0, 1) := by decide +kernel
theorem dX4_restore_20 : decode cX4_restore 20 = .ok (.getfield 224, 3) := by decide +kernel
theorem dX4_restore_23 : decode cX4_restore 23 = .ok (.putfield 125, 3) := by decide +kernel
theorem dX4_restore_26 : decode cX4_restore 26 = .ok (.iconst 0, 1) := by decide +kernel
theorem dX4_restore_27 : decode cX4_restore 27 = .ok (.istore_n 1, 1) := by decide +kernel
theorem dX4_restore_28 : decode cX4_restore 28 = .ok (.iload_n 1, 1) := by decide +kernel
theorem dX4_restore_29 : decode cX4_restore 29 = .ok (.bipush 24, 2) := by decide +kernel
theorem dX4_restore_31 : decode cX4_restore 31 = .ok (.if_icmp .ge 21, 3) := by decide +kernel
theorem dX4_restore_34 : decode cX4_restore 34 = .ok (.aload_n 0, 1) := by decide +kernel
theorem dX4_restore_35 : decode cX4_restore 35 = .ok (.getfield 22, 3) := by decide +kernel
theorem dX4_restore_38 : decode cX4_restore 38 = .ok (.iload_n 1, 1) := by decide +kernel
theorem dX4_restore_39 : decode cX4_restore 39 = .ok (.aload_n 0, 1) := by decide +kernel
theorem dX4_restore_40 : decode cX4_restore 40 = .ok (.getfield 57, 3) := by decide +kernel
theorem dX4_restore_43 : decode cX4_restore 43 = .ok (.iload_n 1, 1) := by decide +kernel
theorem dX4_restore_44 : decode cX4_restore 44 = .ok (.iaload, 1) := by decide +kernel
theorem dX4_restore_45 : decode cX4_restore 45 = .ok (.iastore, 1) := by decide +kernel
theorem dX4_restore_46 : decode cX4_restore 46 = .ok (.iinc 1 1, 3) := by decide +kernel
theorem dX4_restore_49 : decode cX4_restore 49 = .ok (.goto (-21), 3) := by decide +kernel
theorem dX4_restore_52 : decode cX4_restore 52 = .ok (.iconst 0, 1) := by decide +kernel
theorem dX4_restore_53 : decode cX4_restore 53 = .ok (.istore_n 1, 1) := by decide +kernel
theorem dX4_restore_54 : decode cX4_restore 54 = .ok (.iload_n 1, 1) := by decide +kernel
theorem dX4_restore_55 : decode cX4_restore 55 = .ok (.bipush 36, 2) := by decide +kernel
theorem dX4_restore_57 : decode cX4_restore 57 = .ok (.if_icmp .ge 33, 3) := by decide +kernel
theorem dX4_restore_60 : decode cX4_restore 60 = .ok (.aload_n 0, 1) := by decide +kernel
theorem dX4_restore_61 : decode cX4_restore 61 = .ok (.getfield 16, 3) := by decide +kernel
theorem dX4_restore_64 : decode cX4_restore 64 = .ok (.iload_n 1, 1) := by decide +kernel
theorem dX4_restore_65 : decode cX4_restore 65 = .ok (.aload_n 0, 1) := by decide +kernel
theorem dX4_restore_66 : decode cX4_restore 66 = .ok (.getfield 63, 3) := by decide +kernel
theorem dX4_restore_69 : decode cX4_restore 69 = .ok (.iload_n 1, 1) := by decide +kernel
theorem dX4_restore_70 : decode cX4_restore 70 = .ok (.iaload, 1) := by decide +kernel
theorem dX4_restore_71 : decode cX4_restore 71 = .ok (.iastore, 1) := by decide +kernel
theorem dX4_restore_72 : decode cX4_restore 72 = .ok (.aload_n 0, 1) := by decide +kernel
theorem dX4_restore_73 : decode cX4_restore 73 = .ok (.getfield 13, 3) := by decide +kernel
theorem dX4_restore_76 : decode cX4_restore 76 = .ok (.iload_n 1, 1) := by decide +kernel
theorem dX4_restore_77 : decode cX4_restore 77 = .ok (.aload_n 0, 1) := by decide +kernel
theorem dX4_restore_78 : decode cX4_restore 78 = .ok (.getfield 66, 3) := by decide +kernel
theorem dX4_restore_81 : decode cX4_restore 81 = .ok (.iload_n 1, 1) := by decide +kernel
theorem dX4_restore_82 : decode cX4_restore 82 = .ok (.iaload, 1) := by decide +kernel
theorem dX4_restore_83 : decode cX4_restore 83 = .ok (.iastore, 1) := by decide +kernel
theorem dX4_restore_84 : decode cX4_restore 84 = .ok (.iinc 1 1, 3) := by decide +kernel
theorem dX4_restore_87 : decode cX4_restore 87 = .ok (.goto (-33), 3) := by decide +kernel
theorem dX4_restore_90 : decode cX4_restore 90 = .ok (.iconst 0, 1) := by decide +kernel
theorem dX4_restore_91 : decode cX4_restore 91 = .ok (.istore_n 1, 1) := by decide +kernel
theorem dX4_restore_92 : decode cX4_restore 92 = .ok (.iload_n 1, 1) := by decide +kernel
theorem dX4_restore_93 : decode cX4_restore 93 = .ok (.bipush 6, 2) := by decide +kernel
theorem dX4_restore_95 : decode cX4_restore 95 = .ok (.if_icmp .ge 45, 3) := by decide +kernel
theorem dX4_restore_98 : decode cX4_restore 98 = .ok (.aload_n 0, 1) := by decide +kernel
theorem dX4_restore_99 : decode cX4_restore 99 = .ok (.getfield 19, 3) := by decide +kernel
theorem dX4_restore_102 : decode cX4_restore 102 = .ok (.iload_n 1, 1) := by decide +kernel
theorem dX4_restore_103 : decode cX4_restore 103 = .ok (.aload_n 0, 1) := by decide +kernel
theorem dX4_restore_104 : decode cX4_restore 104 = .ok (.getfield 60, 3) := by decide +kernel
theorem dX4_restore_107 : decode cX4_restore 107 = .ok (.iload_n 1, 1) := by decide +kernel
theorem dX4_restore_108 : decode cX4_restore 108 = .ok (.iaload, 1) := by decide +kernel
theorem dX4_restore_109 : decode cX4_restore 109 = .ok (.iastore, 1) := by decide +kernel
theorem dX4_restore_110 : decode cX4_restore 110 = .ok (.aload_n 0, 1) := by decide +kernel
theorem dX4_restore_111 : decode cX4_restore 111 = .ok (.getfield 25, 3) := by decide +kernel
theorem dX4_restore_114 : decode cX4_restore 114 = .ok (.iload_n 1, 1) := by decide +kernel
theorem dX4_restore_115 : decode cX4_restore 115 = .ok (.aload_n 0, 1) := by decide +kernel
theorem dX4_restore_116 : decode cX4_restore 116 = .ok (.getfield 69, 3) := by decide +kernel
theorem dX4_restore_119 : decode cX4_restore 119 = .ok (.iload_n 1, 1) := by decide +kernel
theorem dX4_restore_120 : decode cX4_restore 120 = .ok (.baload, 1) := by decide +kernel
theorem dX4_restore_121 : decode cX4_restore 121 = .ok (.bastore, 1) := by decide +kernel
theorem dX4_restore_122 : decode cX4_restore 122 = .ok (.aload_n 0, 1) := by decide +kernel
theorem dX4_restore_123 : decode cX4_restore 123 = .ok (.getfield 29, 3) := by decide +kernel
theorem dX4_restore_126 : decode cX4_restore 126 = .ok (.iload_n 1, 1) := by decide +kernel
theorem dX4_restore_127 : decode cX4_restore 127 = .ok (.aload_n 0, 1) := by decide +kernel
theorem dX4_restore_128 : decode cX4_restore 128 = .ok (.getfield 72, 3) := by decide +kernel
theorem dX4_restore_131 : decode cX4_restore 131 = .ok (.iload_n 1, 1) := by decide +kernel
theorem dX4_restore_132 : decode cX4_restore 132 = .ok (.iaload, 1) := by decide +kernel
theorem dX4_restore_133 : decode cX4_restore 133 = .ok (.iastore, 1) := by decide +kernel
theorem dX4_restore_134 : decode cX4_restore 134 = .ok (.iinc 1 1, 3) := by decide +kernel
theorem dX4_restore_137 : decode cX4_restore 137 = .ok (.goto (-45), 3) := by decide +kernel
theorem dX4_restore_140 : decode cX4_restore 140 = .ok (.aload_n 0, 1) := by decide +kernel
theorem dX4_restore_141 : decode cX4_restore 141 = .ok (.getfield 122, 3) := by decide +kernel
theorem dX4_restore_144 : decode cX4_restore 144 = .ok (.ireturn, 1) := by decide +kernel
theorem dX4_fastMany_0 : decode cX4_fastMany 0 = .ok (.iconst 0, 1) := by decide +kernel
theorem dX4_fastMany_1 : decode cX4_fastMany 1 = .ok (.istore_n 1, 1) := by decide +kernel
theorem dX4_fastMany_2 : decode cX4_fastMany 2 = .ok (.iconst 0, 1) := by decide +kernel
theorem dX4_fastMany_3 : decode cX4_fastMany 3 = .ok (.istore_n 2, 1) := by decide +kernel
theorem dX4_fastMany_4 : decode cX4_fastMany 4 = .ok (.iload_n 2, 1) := by decide +kernel
theorem dX4_fastMany_5 : decode cX4_fastMany 5 = .ok (.aload_n 0, 1) := by decide +kernel
theorem dX4_fastMany_6 : decode cX4_fastMany 6 = .ok (.getfield 112, 3) := by decide +kernel
theorem dX4_fastMany_9 : decode cX4_fastMany 9 = .ok (.if_icmp .ge 26, 3) := by decide +kernel
theorem dX4_fastMany_12 : decode cX4_fastMany 12 = .ok (.iload_n 1, 1) := by decide +kernel
theorem dX4_fastMany_13 : decode cX4_fastMany 13 = .ok (.aload_n 0, 1) := by decide +kernel
theorem dX4_fastMany_14 : decode cX4_fastMany 14 = .ok (.getfield 25, 3) := by decide +kernel
theorem dX4_fastMany_17 : decode cX4_fastMany 17 = .ok (.iload_n 2, 1) := by decide +kernel
theorem dX4_fastMany_18 : decode cX4_fastMany 18 = .ok (.baload, 1) := by decide +kernel
theorem dX4_fastMany_19 : decode cX4_fastMany 19 = .ok (.ifCond .eq 7, 3) := by decide +kernel
theorem dX4_fastMany_22 : decode cX4_fastMany 22 = .ok (.iconst 1, 1) := by decide +kernel
theorem dX4_fastMany_23 : decode cX4_fastMany 23 = .ok (.goto 4, 3) := by decide +kernel
theorem dX4_fastMany_26 : decode cX4_fastMany 26 = .ok (.iconst 0, 1) := by decide +kernel
theorem dX4_fastMany_27 : decode cX4_fastMany 27 = .ok (.iadd, 1) := by decide +kernel
theorem dX4_fastMany_28 : decode cX4_fastMany 28 = .ok (.istore_n 1, 1) := by decide +kernel
theorem dX4_fastMany_29 : decode cX4_fastMany 29 = .ok (.iinc 2 1, 3) := by decide +kernel
theorem dX4_fastMany_32 : decode cX4_fastMany 32 = .ok (.goto (-28), 3) := by decide +kernel
theorem dX4_fastMany_35 : decode cX4_fastMany 35 = .ok (.iload_n 1, 1) := by decide +kernel
theorem dX4_fastMany_36 : decode cX4_fastMany 36 = .ok (.ireturn, 1) := by decide +kernel
set_option maxRecDepth 20000 in
theorem ggX4_howMany_X4_fastMany : GoodIn wsX4_howMany wsX4_fastMany := goodIn_r _ [14, 1, 15, 16, 17, 18, 19, 20, 21, 22, 23, 24, 25, 26, 27, 28, 29, 30, 31, 32, 33, 34, 35, 36, 37, 38, 39, 40, 41, 42, 43, 44, 45, 46, 47, 48, 49, 50, 51, 52, 53, 54] (by decide +kernel) (by decide +kernel)
set_option maxRecDepth 20000 in
theorem gX4_howMany_X4_fastMany : GoodIn wsX4_howMany (wsV RX4 227 RX4 yX4_fastMany wsX4_fastMany) := goodIn_app (goodIn_of _ (by decide +kernel)) ggX4_howMany_X4_fastMany
theorem dX4_howMany_0 : decode cX4_howMany 0 = .ok (.iload_n 1, 1) := by decide +kernel
theorem dX4_howMany_1 : decode cX4_howMany 1 = .ok (.tableswitch 96 0 8 #[51, 56, 61, 66, 71, 76, 81, 86, 91], 51) := by decide +kernel
theorem dX4_howMany_52 : decode cX4_howMany 52 = .ok (.aload_n 0, 1) := by decide +kernel
theorem dX4_howMany_53 : decode cX4_howMany 53 = .ok (.getfield 112, 3) := by decide +kernel
theorem dX4_howMany_56 : decode cX4_howMany 56 = .ok (.ireturn, 1) := by decide +kernel
theorem dX4_howMany_57 : decode cX4_howMany 57 = .ok (.aload_n 0, 1) := by decide +kernel
theorem dX4_howMany_58 : decode cX4_howMany 58 = .ok (.getfield 115, 3) := by decide +kernel
theorem dX4_howMany_61 : decode cX4_howMany 61 = .ok (.ireturn, 1) := by decide +kernel
theorem dX4_howMany_62 : decode cX4_howMany 62 = .ok (.aload_n 0, 1) := by decide +kernel
theorem dX4_howMany_63 : decode cX4_howMany 63 = .ok (.getfield 80, 3) := by decide +kernel
theorem dX4_howMany_66 : decode cX4_howMany 66 = .ok (.ireturn, 1) := by decide +kernel
theorem dX4_howMany_67 : decode cX4_howMany 67 = .ok (.aload_n 0, 1) := by decide +kernel
theorem dX4_howMany_68 : decode cX4_howMany 68 = .ok (.getfield 122, 3) := by decide +kernel
theorem dX4_howMany_71 : decode cX4_howMany 71 = .ok (.ireturn, 1) := by decide +kernel
theorem dX4_howMany_72 : decode cX4_howMany 72 = .ok (.aload_n 0, 1) := by decide +kernel
theorem dX4_howMany_73 : decode cX4_howMany 73 = .ok (.getfield 32, 3) := by decide +kernel
theorem dX4_howMany_76 : decode cX4_howMany 76 = .ok (.ireturn, 1) := by decide +kernel
theorem dX4_howMany_77 : decode cX4_howMany 77 = .ok (.aload_n 0, 1) := by decide +kernel
theorem dX4_howMany_78 : decode cX4_howMany 78 = .ok (.getfield 36, 3) := by decide +kernel
theorem dX4_howMany_81 : decode cX4_howMany 81 = .ok (.ireturn, 1) := by decide +kernel
theorem dX4_howMany_82 : decode cX4_howMany 82 = .ok (.aload_n 0, 1) := by decide +kernel
theorem dX4_howMany_83 : decode cX4_howMany 83 = .ok (.invokevirtual 227, 3) := by decide +kernel
theorem dX4_howMany_86 : decode cX4_howMany 86 = .ok (.ireturn, 1) := by decide +kernel
theorem dX4_howMany_87 : decode cX4_howMany 87 = .ok (.aload_n 0, 1) := by decide +kernel
theorem dX4_howMany_88 : decode cX4_howMany 88 = .ok (.getfield 132, 3) := by decide +kernel
theorem dX4_howMany_91 : decode cX4_howMany 91 = .ok (.ireturn, 1) := by decide +kernel
theorem dX4_howMany_92 : decode cX4_howMany 92 = .ok (.aload_n 0, 1) := by decide +kernel
theorem dX4_howMany_93 : decode cX4_howMany 93 = .ok (.getfield 169, 3) := by decide +kernel
theorem dX4_howMany_96 : decode cX4_howMany 96 = .ok (.ireturn, 1) := by decide +kernel
theorem dX4_howMany_97 : decode cX4_howMany 97 = .ok (.ldc 79, 2) := by decide +kernel
theorem dX4_howMany_99 : decode cX4_howMany 99 = .ok (.ireturn, 1) := by decide +kernel
set_option maxRecDepth 20000 in
theorem ggX4_count_X4_howMany : GoodIn wsX4_count wsX4_howMany := goodIn_r _ [5, 6, 7, 8, 9, 10, 11, 12, 13, 14, 15, 16, 17, 4, 18, 19, 20, 21, 22, 23, 24, 25, 26, 27, 28, 29, 30, 31, 32, 33, 34, 35, 36, 37, 38, 39, 40, 41, 42, 43, 44, 45, 46, 47, 48, 49, 50, 51, 52, 53, 54, 55, 56, 57, 58] (by decide +kernel) (by decide +kernel)
set_option maxRecDepth 20000 in
theorem gX4_count_X4_howMany : GoodIn wsX4_count (wsV RX4 230 RX4 yX4_howMany wsX4_howMany) := goodIn_app (goodIn_of _ (by decide +kernel)) ggX4_count_X4_howMany
theorem dX4_count_0 : decode cX4_count 0 = .ok (.aload_n 0, 1) := by decide +kernel
theorem dX4_count_1 : decode cX4_count 1 = .ok (.iload_n 1, 1) := by decide +kernel
theorem dX4_count_2 : decode cX4_count 2 = .ok (.invokevirtual 230, 3) := by decide +kernel
theorem dX4_count_5 : decode cX4_count 5 = .ok (.ireturn, 1) := by decide +kernel
theorem dX4_mix_0 : decode cX4_mix 0 = .ok (.aload_n 0, 1) := by decide +kernel
theorem dX4_mix_1 : decode cX4_mix 1 = .ok (.ldc2_w 233, 3) := by decide +kernel
theorem dX4_mix_4 : decode cX4_mix 4 = .ok (.aload_n 0, 1) := by decide +kernel
theorem dX4_mix_5 : decode cX4_mix 5 = .ok (.getfield 235, 3) := by decide +kernel
theorem dX4_mix_8 : decode cX4_mix 8 = .ok (.lmul, 1) := by decide +kernel
theorem dX4_mix_9 : decode cX4_mix 9 = .ok (.lload_n 1, 1) := by decide +kernel
theorem dX4_mix_10 : decode cX4_mix 10 = .ok (.ladd, 1) := by decide +kernel
theorem dX4_mix_11 : decode cX4_mix 11 = .ok (.putfield 235, 3) := by decide +kernel
theorem dX4_mix_14 : decode cX4_mix 14 = .ok (.return_, 1) := by decide +kernel
set_option maxRecDepth 20000 in
theorem ggX4_mixLinks_X4_areBeside : GoodIn wsX4_mixLinks wsX4_areBeside := goodIn_r _ [6, 7, 8, 9, 10, 11, 5, 12, 1, 13, 14, 15, 36, 37, 38, 39, 40, 41, 42, 43, 44, 45, 46, 47, 48, 49, 50, 51, 52, 53, 54, 55, 56, 57, 58, 59, 60, 61, 62, 63, 64, 65, 66, 67, 68, 69, 70, 71, 72, 73, 74] (by decide +kernel) (by decide +kernel)
set_option maxRecDepth 20000 in
theorem gX4_mixLinks_X4_areBeside : GoodIn wsX4_mixLinks (wsV RX4 140 RX4 yX4_areBeside wsX4_areBeside) := goodIn_app (goodIn_of _ (by decide +kernel)) ggX4_mixLinks_X4_areBeside
set_option maxRecDepth 20000 in
theorem ggX4_mixLinks_X4_linkNow : GoodIn wsX4_mixLinks wsX4_linkNow := goodIn_r _ [19, 7, 20, 21, 22, 23, 5, 24, 25, 26, 27, 28, 29, 36, 37, 38, 39, 40, 41, 42, 43, 44, 45, 46, 47, 48, 49, 50, 51, 52, 53, 54, 55, 56, 57, 58, 59, 60, 61, 62, 63, 64, 65, 66, 67, 68, 69, 70, 71, 72, 73, 74] (by decide +kernel) (by decide +kernel)
set_option maxRecDepth 20000 in
theorem gX4_mixLinks_X4_linkNow : GoodIn wsX4_mixLinks (wsV RX4 218 RX4 yX4_linkNow wsX4_linkNow) := goodIn_app (goodIn_of _ (by decide +kernel)) ggX4_mixLinks_X4_linkNow
set_option maxRecDepth 20000 in
theorem ggX4_mixLinks_X4_mix : GoodIn wsX4_mixLinks wsX4_mix := goodIn_r _ [33, 34, 35, 36, 37, 38, 39, 40, 41, 42, 43, 44, 45, 46, 47, 48, 49, 50, 51, 52, 53, 54, 55, 56, 57, 58, 59, 60, 61, 62, 63, 64, 65, 66, 67, 68, 69, 70, 71, 72, 73, 74] (by decide +kernel) (by decide +kernel)
set_option maxRecDepth 20000 in
theorem gX4_mixLinks_X4_mix : GoodIn wsX4_mixLinks (wsV RX4 239 RX4 yX4_mix wsX4_mix) := goodIn_app (goodIn_of _ (by decide +kernel)) ggX4_mixLinks_X4_mix
theorem dX4_mixLinks_0 : decode cX4_mixLinks 0 = .ok (.iconst 0, 1) := by decide +kernel
theorem dX4_mixLinks_1 : decode cX4_mixLinks 1 = .ok (.istore_n 1, 1) := by decide +kernel
theorem dX4_mixLinks_2 : decode cX4_mixLinks 2 = .ok (.iload_n 1, 1) := by decide +kernel
theorem dX4_mixLinks_3 : decode cX4_mixLinks 3 = .ok (.aload_n 0, 1) := by decide +kernel
theorem dX4_mixLinks_4 : decode cX4_mixLinks 4 = .ok (.getfield 112, 3) := by decide +kernel
theorem dX4_mixLinks_7 : decode cX4_mixLinks 7 = .ok (.if_icmp .ge 80, 3) := by decide +kernel
theorem dX4_mixLinks_10 : decode cX4_mixLinks 10 = .ok (.iload_n 1, 1) := by decide +kernel
theorem dX4_mixLinks_11 : decode cX4_mixLinks 11 = .ok (.iconst 1, 1) := by decide +kernel
theorem dX4_mixLinks_12 : decode cX4_mixLinks 12 = .ok (.iadd, 1) := by decide +kernel
theorem dX4_mixLinks_13 : decode cX4_mixLinks 13 = .ok (.istore_n 2, 1) := by decide +kernel
theorem dX4_mixLinks_14 : decode cX4_mixLinks 14 = .ok (.iload_n 2, 1) := by decide +kernel
theorem dX4_mixLinks_15 : decode cX4_mixLinks 15 = .ok (.aload_n 0, 1) := by decide +kernel
theorem dX4_mixLinks_16 : decode cX4_mixLinks 16 = .ok (.getfield 112, 3) := by decide +kernel
theorem dX4_mixLinks_19 : decode cX4_mixLinks 19 = .ok (.if_icmp .ge 62, 3) := by decide +kernel
theorem dX4_mixLinks_22 : decode cX4_mixLinks 22 = .ok (.iconst 0, 1) := by decide +kernel
theorem dX4_mixLinks_23 : decode cX4_mixLinks 23 = .ok (.istore_n 3, 1) := by decide +kernel
theorem dX4_mixLinks_24 : decode cX4_mixLinks 24 = .ok (.iload_n 3, 1) := by decide +kernel
theorem dX4_mixLinks_25 : decode cX4_mixLinks 25 = .ok (.bipush 8, 2) := by decide +kernel
theorem dX4_mixLinks_27 : decode cX4_mixLinks 27 = .ok (.if_icmp .ge 48, 3) := by decide +kernel
theorem dX4_mixLinks_30 : decode cX4_mixLinks 30 = .ok (.aload_n 0, 1) := by decide +kernel
theorem dX4_mixLinks_31 : decode cX4_mixLinks 31 = .ok (.iload_n 1, 1) := by decide +kernel
theorem dX4_mixLinks_32 : decode cX4_mixLinks 32 = .ok (.iload_n 2, 1) := by decide +kernel
theorem dX4_mixLinks_33 : decode cX4_mixLinks 33 = .ok (.invokevirtual 140, 3) := by decide +kernel
theorem dX4_mixLinks_36 : decode cX4_mixLinks 36 = .ok (.ifCond .eq 39, 3) := by decide +kernel
theorem dX4_mixLinks_39 : decode cX4_mixLinks 39 = .ok (.aload_n 0, 1) := by decide +kernel
theorem dX4_mixLinks_40 : decode cX4_mixLinks 40 = .ok (.iload_n 3, 1) := by decide +kernel
theorem dX4_mixLinks_41 : decode cX4_mixLinks 41 = .ok (.iconst 4, 1) := by decide +kernel
theorem dX4_mixLinks_42 : decode cX4_mixLinks 42 = .ok (.if_icmp .ge 14, 3) := by decide +kernel
theorem dX4_mixLinks_45 : decode cX4_mixLinks 45 = .ok (.aload_n 0, 1) := by decide +kernel
theorem dX4_mixLinks_46 : decode cX4_mixLinks 46 = .ok (.iload_n 1, 1) := by decide +kernel
theorem dX4_mixLinks_47 : decode cX4_mixLinks 47 = .ok (.iload_n 2, 1) := by decide +kernel
theorem dX4_mixLinks_48 : decode cX4_mixLinks 48 = .ok (.iload_n 3, 1) := by decide +kernel
theorem dX4_mixLinks_49 : decode cX4_mixLinks 49 = .ok (.invokevirtual 218, 3) := by decide +kernel
theorem dX4_mixLinks_52 : decode cX4_mixLinks 52 = .ok (.i2l, 1) := by decide +kernel
theorem dX4_mixLinks_53 : decode cX4_mixLinks 53 = .ok (.goto 13, 3) := by decide +kernel
theorem dX4_mixLinks_56 : decode cX4_mixLinks 56 = .ok (.aload_n 0, 1) := by decide +kernel
theorem dX4_mixLinks_57 : decode cX4_mixLinks 57 = .ok (.iload_n 2, 1) := by decide +kernel
theorem dX4_mixLinks_58 : decode cX4_mixLinks 58 = .ok (.iload_n 1, 1) := by decide +kernel
theorem dX4_mixLinks_59 : decode cX4_mixLinks 59 = .ok (.iload_n 3, 1) := by decide +kernel
theorem dX4_mixLinks_60 : decode cX4_mixLinks 60 = .ok (.iconst 4, 1) := by decide +kernel
theorem dX4_mixLinks_61 : decode cX4_mixLinks 61 = .ok (.isub, 1) := by decide +kernel
theorem dX4_mixLinks_62 : decode cX4_mixLinks 62 = .ok (.invokevirtual 218, 3) := by decide +kernel
theorem dX4_mixLinks_65 : decode cX4_mixLinks 65 = .ok (.i2l, 1) := by decide +kernel
theorem dX4_mixLinks_66 : decode cX4_mixLinks 66 = .ok (.invokevirtual 239, 3) := by decide +kernel
theorem dX4_mixLinks_69 : decode cX4_mixLinks 69 = .ok (.iinc 3 1, 3) := by decide +kernel
theorem dX4_mixLinks_72 : decode cX4_mixLinks 72 = .ok (.goto (-48), 3) := by decide +kernel
theorem dX4_mixLinks_75 : decode cX4_mixLinks 75 = .ok (.iinc 2 1, 3) := by decide +kernel
theorem dX4_mixLinks_78 : decode cX4_mixLinks 78 = .ok (.goto (-64), 3) := by decide +kernel
theorem dX4_mixLinks_81 : decode cX4_mixLinks 81 = .ok (.iinc 1 1, 3) := by decide +kernel
theorem dX4_mixLinks_84 : decode cX4_mixLinks 84 = .ok (.goto (-82), 3) := by decide +kernel
theorem dX4_mixLinks_87 : decode cX4_mixLinks 87 = .ok (.return_, 1) := by decide +kernel
set_option maxRecDepth 20000 in
theorem ggX4_mixSkews_X4_skewNow : GoodIn wsX4_mixSkews wsX4_skewNow := goodIn_r _ [5, 6, 7, 8, 9, 4, 10, 11, 12, 13, 14, 15, 16, 17, 18, 19, 20, 21, 22, 23, 24, 25, 26, 27, 28, 29, 30, 31, 32, 33, 34, 35, 36, 37, 38, 39, 40, 41, 42, 109, 110, 111, 112, 113, 114, 115, 116, 117, 118, 119, 120, 121, 122, 123, 124, 125, 126, 127, 128, 129, 130, 131, 132, 133, 134, 135, 136, 137, 138, 139, 140, 141, 142, 143, 144, 145, 146, 147] (by decide +kernel) (by decide +kernel)
set_option maxRecDepth 20000 in
theorem gX4_mixSkews_X4_skewNow : GoodIn wsX4_mixSkews (wsV RX4 187 RX4 yX4_skewNow wsX4_skewNow) := goodIn_app (goodIn_of _ (by decide +kernel)) ggX4_mixSkews_X4_skewNow
set_option maxRecDepth 20000 in
theorem ggX4_mixSkews_X4_mix : GoodIn wsX4_mixSkews wsX4_mix := goodIn_r _ [46, 47, 48, 109, 110, 111, 112, 113, 114, 115, 116, 117, 118, 119, 120, 121, 122, 123, 124, 125, 126, 127, 128, 129, 130, 131, 132, 133, 134, 135, 136, 137, 138, 139, 140, 141, 142, 143, 144, 145, 146, 147] (by decide +kernel) (by decide +kernel)
set_option maxRecDepth 20000 in
theorem gX4_mixSkews_X4_mix : GoodIn wsX4_mixSkews (wsV RX4 239 RX4 yX4_mix wsX4_mix) := goodIn_app (goodIn_of _ (by decide +kernel)) ggX4_mixSkews_X4_mix
set_option maxRecDepth 20000 in
theorem ggX4_mixSkews_X4_spreadNow : GoodIn wsX4_mixSkews wsX4_spreadNow := goodIn_r _ [52, 17, 11, 53, 54, 55, 4, 56, 12, 13, 14, 15, 16, 18, 19, 20, 21, 22, 23, 24, 25, 26, 27, 28, 29, 109, 110, 111, 112, 113, 114, 115, 116, 117, 118, 119, 120, 121, 122, 123, 124, 125, 126, 127, 128, 129, 130, 131, 132, 133, 134, 135, 136, 137, 138, 139, 140, 141, 142, 143, 144, 145, 146, 147] (by decide +kernel) (by decide +kernel)
set_option maxRecDepth 20000 in
theorem gX4_mixSkews_X4_spreadNow : GoodIn wsX4_mixSkews (wsV RX4 190 RX4 yX4_spreadNow wsX4_spreadNow) := goodIn_app (goodIn_of _ (by decide +kernel)) ggX4_mixSkews_X4_spreadNow
set_option maxRecDepth 20000 in
theorem ggX4_mixSkews_X4_worstNow : GoodIn wsX4_mixSkews wsX4_worstNow := goodIn_r _ [60, 61, 62, 63, 64, 65, 4, 66, 17, 11, 67, 68, 69, 70, 71, 72, 29, 73, 74, 75, 76, 77, 78, 79, 80, 81, 82, 83, 84, 85, 86, 87, 88, 89, 90, 91, 12, 13, 14, 15, 16, 18, 19, 20, 21, 22, 23, 24, 92, 93, 94, 95, 96, 97, 98, 99, 100, 42, 38, 39, 40, 41, 101, 102, 103, 104, 7, 8, 9, 10, 25, 26, 27, 28, 105, 106, 107, 108, 109, 110, 111, 112, 113, 114, 115, 116, 117, 118, 119, 120, 121, 122, 123, 124, 125, 126, 127, 128, 129, 130, 131, 132, 133, 134, 135, 136, 137, 138, 139, 140, 141, 142, 143, 144, 145, 146, 147] (by decide +kernel) (by decide +kernel)
set_option maxRecDepth 20000 in
theorem gX4_mixSkews_X4_worstNow : GoodIn wsX4_mixSkews (wsV RX4 209 RX4 yX4_worstNow wsX4_worstNow) := goodIn_app (goodIn_of _ (by decide +kernel)) ggX4_mixSkews_X4_worstNow
theorem dX4_mixSkews_0 : decode cX4_mixSkews 0 = .ok (.iconst 0, 1) := by decide +kernel
theorem dX4_mixSkews_1 : decode cX4_mixSkews 1 = .ok (.istore_n 1, 1) := by decide +kernel
theorem dX4_mixSkews_2 : decode cX4_mixSkews 2 = .ok (.iload_n 1, 1) := by decide +kernel
theorem dX4_mixSkews_3 : decode cX4_mixSkews 3 = .ok (.iconst 4, 1) := by decide +kernel
theorem dX4_mixSkews_4 : decode cX4_mixSkews 4 = .ok (.if_icmp .ge 19, 3) := by decide +kernel
theorem dX4_mixSkews_7 : decode cX4_mixSkews 7 = .ok (.aload_n 0, 1) := by decide +kernel
theorem dX4_mixSkews_8 : decode cX4_mixSkews 8 = .ok (.aload_n 0, 1) := by decide +kernel
theorem dX4_mixSkews_9 : decode cX4_mixSkews 9 = .ok (.iload_n 1, 1) := by decide +kernel
theorem dX4_mixSkews_10 : decode cX4_mixSkews 10 = .ok (.invokevirtual 187, 3) := by decide +kernel
theorem dX4_mixSkews_13 : decode cX4_mixSkews 13 = .ok (.i2l, 1) := by decide +kernel
theorem dX4_mixSkews_14 : decode cX4_mixSkews 14 = .ok (.invokevirtual 239, 3) := by decide +kernel
theorem dX4_mixSkews_17 : decode cX4_mixSkews 17 = .ok (.iinc 1 1, 3) := by decide +kernel
theorem dX4_mixSkews_20 : decode cX4_mixSkews 20 = .ok (.goto (-18), 3) := by decide +kernel
theorem dX4_mixSkews_23 : decode cX4_mixSkews 23 = .ok (.iconst 1, 1) := by decide +kernel
theorem dX4_mixSkews_24 : decode cX4_mixSkews 24 = .ok (.istore_n 1, 1) := by decide +kernel
theorem dX4_mixSkews_25 : decode cX4_mixSkews 25 = .ok (.iload_n 1, 1) := by decide +kernel
theorem dX4_mixSkews_26 : decode cX4_mixSkews 26 = .ok (.bipush 6, 2) := by decide +kernel
theorem dX4_mixSkews_28 : decode cX4_mixSkews 28 = .ok (.if_icmp .ge 19, 3) := by decide +kernel
theorem dX4_mixSkews_31 : decode cX4_mixSkews 31 = .ok (.aload_n 0, 1) := by decide +kernel
theorem dX4_mixSkews_32 : decode cX4_mixSkews 32 = .ok (.aload_n 0, 1) := by decide +kernel
theorem dX4_mixSkews_33 : decode cX4_mixSkews 33 = .ok (.iload_n 1, 1) := by decide +kernel
theorem dX4_mixSkews_34 : decode cX4_mixSkews 34 = .ok (.invokevirtual 190, 3) := by decide +kernel
theorem dX4_mixSkews_37 : decode cX4_mixSkews 37 = .ok (.i2l, 1) := by decide +kernel
theorem dX4_mixSkews_38 : decode cX4_mixSkews 38 = .ok (.invokevirtual 239, 3) := by decide +kernel
theorem dX4_mixSkews_41 : decode cX4_mixSkews 41 = .ok (.iinc 1 1, 3) := by decide +kernel
theorem dX4_mixSkews_44 : decode cX4_mixSkews 44 = .ok (.goto (-19), 3) := by decide +kernel
theorem dX4_mixSkews_47 : decode cX4_mixSkews 47 = .ok (.aload_n 0, 1) := by decide +kernel
theorem dX4_mixSkews_48 : decode cX4_mixSkews 48 = .ok (.aload_n 0, 1) := by decide +kernel
theorem dX4_mixSkews_49 : decode cX4_mixSkews 49 = .ok (.iconst 3, 1) := by decide +kernel
theorem dX4_mixSkews_50 : decode cX4_mixSkews 50 = .ok (.iconst 0, 1) := by decide +kernel
theorem dX4_mixSkews_51 : decode cX4_mixSkews 51 = .ok (.invokevirtual 209, 3) := by decide +kernel
theorem dX4_mixSkews_54 : decode cX4_mixSkews 54 = .ok (.i2l, 1) := by decide +kernel
theorem dX4_mixSkews_55 : decode cX4_mixSkews 55 = .ok (.invokevirtual 239, 3) := by decide +kernel
theorem dX4_mixSkews_58 : decode cX4_mixSkews 58 = .ok (.aload_n 0, 1) := by decide +kernel
theorem dX4_mixSkews_59 : decode cX4_mixSkews 59 = .ok (.aload_n 0, 1) := by decide +kernel
theorem dX4_mixSkews_60 : decode cX4_mixSkews 60 = .ok (.iconst 3, 1) := by decide +kernel
theorem dX4_mixSkews_61 : decode cX4_mixSkews 61 = .ok (.iconst 1, 1) := by decide +kernel
theorem dX4_mixSkews_62 : decode cX4_mixSkews 62 = .ok (.invokevirtual 209, 3) := by decide +kernel
theorem dX4_mixSkews_65 : decode cX4_mixSkews 65 = .ok (.i2l, 1) := by decide +kernel
theorem dX4_mixSkews_66 : decode cX4_mixSkews 66 = .ok (.invokevirtual 239, 3) := by decide +kernel
theorem dX4_mixSkews_69 : decode cX4_mixSkews 69 = .ok (.return_, 1) := by decide +kernel
set_option maxRecDepth 20000 in
theorem ggX4_digest_X4_nodeNow : GoodIn wsX4_digest wsX4_nodeNow := goodIn_r _ [10, 11, 12, 13, 14, 15, 16, 17, 9, 18, 3, 19, 20, 21, 22, 23, 24, 25, 26, 27, 28, 29, 30, 31, 32, 33, 34, 35, 36, 37, 38, 39, 40, 41, 42, 43, 44, 45, 46, 47, 48, 49, 50, 51, 52, 53, 54, 55, 56, 57, 145, 146, 147, 148, 149, 150, 151, 152, 153, 154, 155, 156, 157, 158, 159, 160, 161, 162, 163, 164, 165, 166, 167, 168, 169, 170, 171, 172, 173, 174, 175, 176, 177, 178, 179, 180, 181, 182, 183] (by decide +kernel) (by decide +kernel)
set_option maxRecDepth 20000 in
theorem gX4_digest_X4_nodeNow : GoodIn wsX4_digest (wsV RX4 215 RX4 yX4_nodeNow wsX4_nodeNow) := goodIn_app (goodIn_of _ (by decide +kernel)) ggX4_digest_X4_nodeNow
set_option maxRecDepth 20000 in
theorem ggX4_digest_X4_mix : GoodIn wsX4_digest wsX4_mix := goodIn_r _ [61, 62, 2, 145, 146, 147, 148, 149, 150, 151, 152, 153, 154, 155, 156, 157, 158, 159, 160, 161, 162, 163, 164, 165, 166, 167, 168, 169, 170, 171, 172, 173, 174, 175, 176, 177, 178, 179, 180, 181, 182, 183] (by decide +kernel) (by decide +kernel)
set_option maxRecDepth 20000 in
theorem gX4_digest_X4_mix : GoodIn wsX4_digest (wsV RX4 239 RX4 yX4_mix wsX4_mix) := goodIn_app (goodIn_of _ (by decide +kernel)) ggX4_digest_X4_mix
set_option maxRecDepth 20000 in
theorem ggX4_digest_X4_mixLinks : GoodIn wsX4_digest wsX4_mixLinks := goodIn_r _ [66, 3, 19, 20, 21, 9, 22, 23, 24, 25, 26, 27, 28, 29, 30, 31, 67, 68, 69, 70, 40, 36, 37, 38, 39, 11, 71, 72, 73, 74, 58, 59, 60, 61, 62, 2, 145, 146, 147, 148, 149, 150, 151, 152, 153, 154, 155, 156, 157, 158, 159, 160, 161, 162, 163, 164, 165, 166, 167, 168, 169, 170, 171, 172, 173, 174, 175, 176, 177, 178, 179, 180, 181, 182, 183] (by decide +kernel) (by decide +kernel)
set_option maxRecDepth 20000 in
theorem gX4_digest_X4_mixLinks : GoodIn wsX4_digest (wsV RX4 245 RX4 yX4_mixLinks wsX4_mixLinks) := goodIn_app (goodIn_of _ (by decide +kernel)) ggX4_digest_X4_mixLinks
set_option maxRecDepth 20000 in
theorem ggX4_digest_X4_mixSkews : GoodIn wsX4_digest wsX4_mixSkews := goodIn_r _ [78, 79, 80, 81, 9, 82, 83, 84, 85, 86, 87, 3, 19, 20, 21, 22, 23, 24, 25, 26, 27, 28, 29, 30, 31, 71, 72, 73, 74, 11, 88, 89, 90, 91, 92, 93, 94, 95, 50, 51, 52, 53, 49, 58, 59, 60, 61, 62, 2, 96, 97, 98, 99, 100, 101, 102, 103, 104, 105, 106, 107, 108, 109, 110, 111, 112, 113, 12, 114, 115, 116, 117, 118, 119, 120, 13, 121, 14, 122, 123, 124, 125, 126, 127, 41, 42, 43, 44, 32, 33, 34, 35, 36, 37, 38, 39, 40, 45, 46, 47, 48, 54, 55, 56, 57, 128, 129, 130, 131, 145, 146, 147, 148, 149, 150, 151, 152, 153, 154, 155, 156, 157, 158, 159, 160, 161, 162, 163, 164, 165, 166, 167, 168, 169, 170, 171, 172, 173, 174, 175, 176, 177, 178, 179, 180, 181, 182, 183] (by decide +kernel) (by decide +kernel)
set_option maxRecDepth 20000 in
theorem gX4_digest_X4_mixSkews : GoodIn wsX4_digest (wsV RX4 248 RX4 yX4_mixSkews wsX4_mixSkews) := goodIn_app (goodIn_of _ (by decide +kernel)) ggX4_digest_X4_mixSkews
set_option maxRecDepth 20000 in
theorem ggX4_digest_X4_howMany : GoodIn wsX4_digest wsX4_howMany := goodIn_r _ [135, 3, 136, 4, 137, 49, 127, 138, 139, 140, 141, 142, 143, 9, 144, 13, 145, 146, 147, 148, 149, 150, 151, 152, 153, 154, 155, 156, 157, 158, 159, 160, 161, 162, 163, 164, 165, 166, 167, 168, 169, 170, 171, 172, 173, 174, 175, 176, 177, 178, 179, 180, 181, 182, 183] (by decide +kernel) (by decide +kernel)
set_option maxRecDepth 20000 in
theorem gX4_digest_X4_howMany : GoodIn wsX4_digest (wsV RX4 230 RX4 yX4_howMany wsX4_howMany) := goodIn_app (goodIn_of _ (by decide +kernel)) ggX4_digest_X4_howMany
theorem dX4_digest_0 : decode cX4_digest 0 = .ok (.aload_n 0, 1) := by decide +kernel
theorem dX4_digest_1 : decode cX4_digest 1 = .ok (.ldc2_w 243, 3) := by decide +kernel
theorem dX4_digest_4 : decode cX4_digest 4 = .ok (.putfield 235, 3) := by decide +kernel
theorem dX4_digest_7 : decode cX4_digest 7 = .ok (.iconst 0, 1) := by decide +kernel
theorem dX4_digest_8 : decode cX4_digest 8 = .ok (.istore_n 1, 1) := by decide +kernel
theorem dX4_digest_9 : decode cX4_digest 9 = .ok (.iload_n 1, 1) := by decide +kernel
theorem dX4_digest_10 : decode cX4_digest 10 = .ok (.aload_n 0, 1) := by decide +kernel
theorem dX4_digest_11 : decode cX4_digest 11 = .ok (.getfield 112, 3) := by decide +kernel
theorem dX4_digest_14 : decode cX4_digest 14 = .ok (.if_icmp .ge 34, 3) := by decide +kernel
theorem dX4_digest_17 : decode cX4_digest 17 = .ok (.iconst 0, 1) := by decide +kernel
theorem dX4_digest_18 : decode cX4_digest 18 = .ok (.istore_n 2, 1) := by decide +kernel
theorem dX4_digest_19 : decode cX4_digest 19 = .ok (.iload_n 2, 1) := by decide +kernel
theorem dX4_digest_20 : decode cX4_digest 20 = .ok (.bipush 9, 2) := by decide +kernel
theorem dX4_digest_22 : decode cX4_digest 22 = .ok (.if_icmp .ge 20, 3) := by decide +kernel
theorem dX4_digest_25 : decode cX4_digest 25 = .ok (.aload_n 0, 1) := by decide +kernel
theorem dX4_digest_26 : decode cX4_digest 26 = .ok (.aload_n 0, 1) := by decide +kernel
theorem dX4_digest_27 : decode cX4_digest 27 = .ok (.iload_n 1, 1) := by decide +kernel
theorem dX4_digest_28 : decode cX4_digest 28 = .ok (.iload_n 2, 1) := by decide +kernel
theorem dX4_digest_29 : decode cX4_digest 29 = .ok (.invokevirtual 215, 3) := by decide +kernel
theorem dX4_digest_32 : decode cX4_digest 32 = .ok (.i2l, 1) := by decide +kernel
theorem dX4_digest_33 : decode cX4_digest 33 = .ok (.invokevirtual 239, 3) := by decide +kernel
theorem dX4_digest_36 : decode cX4_digest 36 = .ok (.iinc 2 1, 3) := by decide +kernel
theorem dX4_digest_39 : decode cX4_digest 39 = .ok (.goto (-20), 3) := by decide +kernel
theorem dX4_digest_42 : decode cX4_digest 42 = .ok (.iinc 1 1, 3) := by decide +kernel
theorem dX4_digest_45 : decode cX4_digest 45 = .ok (.goto (-36), 3) := by decide +kernel
theorem dX4_digest_48 : decode cX4_digest 48 = .ok (.aload_n 0, 1) := by decide +kernel
theorem dX4_digest_49 : decode cX4_digest 49 = .ok (.invokevirtual 245, 3) := by decide +kernel
theorem dX4_digest_52 : decode cX4_digest 52 = .ok (.aload_n 0, 1) := by decide +kernel
theorem dX4_digest_53 : decode cX4_digest 53 = .ok (.getfield 112, 3) := by decide +kernel
theorem dX4_digest_56 : decode cX4_digest 56 = .ok (.ifCond .le 7, 3) := by decide +kernel
theorem dX4_digest_59 : decode cX4_digest 59 = .ok (.aload_n 0, 1) := by decide +kernel
theorem dX4_digest_60 : decode cX4_digest 60 = .ok (.invokevirtual 248, 3) := by decide +kernel
theorem dX4_digest_63 : decode cX4_digest 63 = .ok (.iconst 0, 1) := by decide +kernel
theorem dX4_digest_64 : decode cX4_digest 64 = .ok (.istore_n 1, 1) := by decide +kernel
theorem dX4_digest_65 : decode cX4_digest 65 = .ok (.iload_n 1, 1) := by decide +kernel
theorem dX4_digest_66 : decode cX4_digest 66 = .ok (.aload_n 0, 1) := by decide +kernel
theorem dX4_digest_67 : decode cX4_digest 67 = .ok (.getfield 80, 3) := by decide +kernel
theorem dX4_digest_70 : decode cX4_digest 70 = .ok (.if_icmp .ge 20, 3) := by decide +kernel
theorem dX4_digest_73 : decode cX4_digest 73 = .ok (.aload_n 0, 1) := by decide +kernel
theorem dX4_digest_74 : decode cX4_digest 74 = .ok (.aload_n 0, 1) := by decide +kernel
theorem dX4_digest_75 : decode cX4_digest 75 = .ok (.getfield 7, 3) := by decide +kernel
theorem dX4_digest_78 : decode cX4_digest 78 = .ok (.iload_n 1, 1) := by decide +kernel
theorem dX4_digest_79 : decode cX4_digest 79 = .ok (.iaload, 1) := by decide +kernel
theorem dX4_digest_80 : decode cX4_digest 80 = .ok (.i2l, 1) := by decide +kernel
theorem dX4_digest_81 : decode cX4_digest 81 = .ok (.invokevirtual 239, 3) := by decide +kernel
theorem dX4_digest_84 : decode cX4_digest 84 = .ok (.iinc 1 1, 3) := by decide +kernel
theorem dX4_digest_87 : decode cX4_digest 87 = .ok (.goto (-22), 3) := by decide +kernel
theorem dX4_digest_90 : decode cX4_digest 90 = .ok (.iconst 0, 1) := by decide +kernel
theorem dX4_digest_91 : decode cX4_digest 91 = .ok (.istore_n 1, 1) := by decide +kernel
theorem dX4_digest_92 : decode cX4_digest 92 = .ok (.iload_n 1, 1) := by decide +kernel
theorem dX4_digest_93 : decode cX4_digest 93 = .ok (.bipush 9, 2) := by decide +kernel
theorem dX4_digest_95 : decode cX4_digest 95 = .ok (.if_icmp .ge 19, 3) := by decide +kernel
theorem dX4_digest_98 : decode cX4_digest 98 = .ok (.aload_n 0, 1) := by decide +kernel
theorem dX4_digest_99 : decode cX4_digest 99 = .ok (.aload_n 0, 1) := by decide +kernel
theorem dX4_digest_100 : decode cX4_digest 100 = .ok (.iload_n 1, 1) := by decide +kernel
theorem dX4_digest_101 : decode cX4_digest 101 = .ok (.invokevirtual 230, 3) := by decide +kernel
theorem dX4_digest_104 : decode cX4_digest 104 = .ok (.i2l, 1) := by decide +kernel
theorem dX4_digest_105 : decode cX4_digest 105 = .ok (.invokevirtual 239, 3) := by decide +kernel
theorem dX4_digest_108 : decode cX4_digest 108 = .ok (.iinc 1 1, 3) := by decide +kernel
theorem dX4_digest_111 : decode cX4_digest 111 = .ok (.goto (-19), 3) := by decide +kernel
theorem dX4_digest_114 : decode cX4_digest 114 = .ok (.aload_n 0, 1) := by decide +kernel
theorem dX4_digest_115 : decode cX4_digest 115 = .ok (.getfield 235, 3) := by decide +kernel
theorem dX4_digest_118 : decode cX4_digest 118 = .ok (.lreturn, 1) := by decide +kernel
theorem dJ9_abs_0f7a4_0 : decode cJ9_abs_0f7a4 0 = .ok (.iload_n 0, 1) := by decide +kernel
theorem dJ9_abs_0f7a4_1 : decode cJ9_abs_0f7a4 1 = .ok (.ifCond .ge 8, 3) := by decide +kernel
theorem dJ9_abs_0f7a4_4 : decode cJ9_abs_0f7a4 4 = .ok (.iload_n 0, 1) := by decide +kernel
theorem dJ9_abs_0f7a4_5 : decode cJ9_abs_0f7a4 5 = .ok (.ineg, 1) := by decide +kernel
theorem dJ9_abs_0f7a4_6 : decode cJ9_abs_0f7a4 6 = .ok (.goto 4, 3) := by decide +kernel
theorem dJ9_abs_0f7a4_9 : decode cJ9_abs_0f7a4 9 = .ok (.iload_n 0, 1) := by decide +kernel
theorem dJ9_abs_0f7a4_10 : decode cJ9_abs_0f7a4 10 = .ok (.ireturn, 1) := by decide +kernel
theorem dJ9_max_7cf53_0 : decode cJ9_max_7cf53 0 = .ok (.iload_n 0, 1) := by decide +kernel
theorem dJ9_max_7cf53_1 : decode cJ9_max_7cf53 1 = .ok (.iload_n 1, 1) := by decide +kernel
theorem dJ9_max_7cf53_2 : decode cJ9_max_7cf53 2 = .ok (.if_icmp .lt 7, 3) := by decide +kernel
theorem dJ9_max_7cf53_5 : decode cJ9_max_7cf53 5 = .ok (.iload_n 0, 1) := by decide +kernel
theorem dJ9_max_7cf53_6 : decode cJ9_max_7cf53 6 = .ok (.goto 4, 3) := by decide +kernel
theorem dJ9_max_7cf53_9 : decode cJ9_max_7cf53 9 = .ok (.iload_n 1, 1) := by decide +kernel
theorem dJ9_max_7cf53_10 : decode cJ9_max_7cf53 10 = .ok (.ireturn, 1) := by decide +kernel
theorem dJ9_min_7cf53_0 : decode cJ9_min_7cf53 0 = .ok (.iload_n 0, 1) := by decide +kernel
theorem dJ9_min_7cf53_1 : decode cJ9_min_7cf53 1 = .ok (.iload_n 1, 1) := by decide +kernel
theorem dJ9_min_7cf53_2 : decode cJ9_min_7cf53 2 = .ok (.if_icmp .gt 7, 3) := by decide +kernel
theorem dJ9_min_7cf53_5 : decode cJ9_min_7cf53 5 = .ok (.iload_n 0, 1) := by decide +kernel
theorem dJ9_min_7cf53_6 : decode cJ9_min_7cf53 6 = .ok (.goto 4, 3) := by decide +kernel
theorem dJ9_min_7cf53_9 : decode cJ9_min_7cf53 9 = .ok (.iload_n 1, 1) := by decide +kernel
theorem dJ9_min_7cf53_10 : decode cJ9_min_7cf53 10 = .ok (.ireturn, 1) := by decide +kernel
theorem dJ7_fill_53178_0 : decode cJ7_fill_53178 0 = .ok (.iconst 0, 1) := by decide +kernel
theorem dJ7_fill_53178_1 : decode cJ7_fill_53178 1 = .ok (.istore_n 2, 1) := by decide +kernel
theorem dJ7_fill_53178_2 : decode cJ7_fill_53178 2 = .ok (.aload_n 0, 1) := by decide +kernel
theorem dJ7_fill_53178_3 : decode cJ7_fill_53178 3 = .ok (.arraylength, 1) := by decide +kernel
theorem dJ7_fill_53178_4 : decode cJ7_fill_53178 4 = .ok (.istore_n 3, 1) := by decide +kernel
theorem dJ7_fill_53178_5 : decode cJ7_fill_53178 5 = .ok (.iload_n 2, 1) := by decide +kernel
theorem dJ7_fill_53178_6 : decode cJ7_fill_53178 6 = .ok (.iload_n 3, 1) := by decide +kernel
theorem dJ7_fill_53178_7 : decode cJ7_fill_53178 7 = .ok (.if_icmp .ge 13, 3) := by decide +kernel
theorem dJ7_fill_53178_10 : decode cJ7_fill_53178 10 = .ok (.aload_n 0, 1) := by decide +kernel
theorem dJ7_fill_53178_11 : decode cJ7_fill_53178 11 = .ok (.iload_n 2, 1) := by decide +kernel
theorem dJ7_fill_53178_12 : decode cJ7_fill_53178 12 = .ok (.iload_n 1, 1) := by decide +kernel
theorem dJ7_fill_53178_13 : decode cJ7_fill_53178 13 = .ok (.iastore, 1) := by decide +kernel
theorem dJ7_fill_53178_14 : decode cJ7_fill_53178 14 = .ok (.iinc 2 1, 3) := by decide +kernel
theorem dJ7_fill_53178_17 : decode cJ7_fill_53178 17 = .ok (.goto (-12), 3) := by decide +kernel
theorem dJ7_fill_53178_20 : decode cJ7_fill_53178 20 = .ok (.return_, 1) := by decide +kernel
