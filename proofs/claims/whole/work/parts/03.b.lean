set_option maxRecDepth 20000 in
theorem ggX7_readStatement_X7_fail : GoodIn wsX7_readStatement wsX7_fail := goodIn_r _ [73, 74, 1, 75, 76, 170, 171, 172, 173, 174, 175, 176, 177, 178, 179, 180, 181, 182, 183, 184, 185] (by decide +kernel) (by decide +kernel)
set_option maxRecDepth 20000 in
theorem gX7_readStatement_X7_fail : GoodIn wsX7_readStatement (wsV RX7 92 RX7 yX7_fail wsX7_fail) := goodIn_app (goodIn_of _ (by decide +kernel)) ggX7_readStatement_X7_fail
set_option maxRecDepth 20000 in
theorem ggX7_readStatement_X7_takeSign : GoodIn wsX7_readStatement wsX7_takeSign := goodIn_r _ [161, 1, 94, 95, 96, 6, 97, 8, 82, 70, 71, 72, 64, 73, 74, 75, 76, 77, 78, 79, 80, 9, 81, 11, 10, 83, 84, 85, 86, 87, 170, 171, 172, 173, 174, 175, 176, 177, 178, 179, 180, 181, 182, 183, 184, 185] (by decide +kernel) (by decide +kernel)
set_option maxRecDepth 20000 in
theorem gX7_readStatement_X7_takeSign : GoodIn wsX7_readStatement (wsV RX7 103 RX7 yX7_takeSign wsX7_takeSign) := goodIn_app (goodIn_of _ (by decide +kernel)) ggX7_readStatement_X7_takeSign
theorem dX7_readStatement_0 : decode cX7_readStatement 0 = .ok (.aload_n 0, 1) := by decide +kernel
theorem dX7_readStatement_1 : decode cX7_readStatement 1 = .ok (.getfield 28, 3) := by decide +kernel
theorem dX7_readStatement_4 : decode cX7_readStatement 4 = .ok (.ldc 107, 2) := by decide +kernel
theorem dX7_readStatement_6 : decode cX7_readStatement 6 = .ok (.invokevirtual 88, 3) := by decide +kernel
theorem dX7_readStatement_9 : decode cX7_readStatement 9 = .ok (.ifCond .eq 11, 3) := by decide +kernel
theorem dX7_readStatement_12 : decode cX7_readStatement 12 = .ok (.aload_n 0, 1) := by decide +kernel
theorem dX7_readStatement_13 : decode cX7_readStatement 13 = .ok (.invokevirtual 109, 3) := by decide +kernel
theorem dX7_readStatement_16 : decode cX7_readStatement 16 = .ok (.istore_n 1, 1) := by decide +kernel
theorem dX7_readStatement_17 : decode cX7_readStatement 17 = .ok (.goto 85, 3) := by decide +kernel
theorem dX7_readStatement_20 : decode cX7_readStatement 20 = .ok (.aload_n 0, 1) := by decide +kernel
theorem dX7_readStatement_21 : decode cX7_readStatement 21 = .ok (.getfield 28, 3) := by decide +kernel
theorem dX7_readStatement_24 : decode cX7_readStatement 24 = .ok (.ldc 112, 2) := by decide +kernel
theorem dX7_readStatement_26 : decode cX7_readStatement 26 = .ok (.invokevirtual 88, 3) := by decide +kernel
theorem dX7_readStatement_29 : decode cX7_readStatement 29 = .ok (.ifCond .eq 11, 3) := by decide +kernel
theorem dX7_readStatement_32 : decode cX7_readStatement 32 = .ok (.aload_n 0, 1) := by decide +kernel
theorem dX7_readStatement_33 : decode cX7_readStatement 33 = .ok (.invokevirtual 114, 3) := by decide +kernel
theorem dX7_readStatement_36 : decode cX7_readStatement 36 = .ok (.istore_n 1, 1) := by decide +kernel
theorem dX7_readStatement_37 : decode cX7_readStatement 37 = .ok (.goto 65, 3) := by decide +kernel
theorem dX7_readStatement_40 : decode cX7_readStatement 40 = .ok (.aload_n 0, 1) := by decide +kernel
theorem dX7_readStatement_41 : decode cX7_readStatement 41 = .ok (.getfield 28, 3) := by decide +kernel
theorem dX7_readStatement_44 : decode cX7_readStatement 44 = .ok (.ldc 117, 2) := by decide +kernel
theorem dX7_readStatement_46 : decode cX7_readStatement 46 = .ok (.invokevirtual 88, 3) := by decide +kernel
theorem dX7_readStatement_49 : decode cX7_readStatement 49 = .ok (.ifCond .eq 11, 3) := by decide +kernel
theorem dX7_readStatement_52 : decode cX7_readStatement 52 = .ok (.aload_n 0, 1) := by decide +kernel
theorem dX7_readStatement_53 : decode cX7_readStatement 53 = .ok (.invokevirtual 119, 3) := by decide +kernel
theorem dX7_readStatement_56 : decode cX7_readStatement 56 = .ok (.istore_n 1, 1) := by decide +kernel
theorem dX7_readStatement_57 : decode cX7_readStatement 57 = .ok (.goto 45, 3) := by decide +kernel
theorem dX7_readStatement_60 : decode cX7_readStatement 60 = .ok (.aload_n 0, 1) := by decide +kernel
theorem dX7_readStatement_61 : decode cX7_readStatement 61 = .ok (.getfield 28, 3) := by decide +kernel
theorem dX7_readStatement_64 : decode cX7_readStatement 64 = .ok (.ldc 122, 2) := by decide +kernel
theorem dX7_readStatement_66 : decode cX7_readStatement 66 = .ok (.invokevirtual 88, 3) := by decide +kernel
theorem dX7_readStatement_69 : decode cX7_readStatement 69 = .ok (.ifCond .eq 26, 3) := by decide +kernel
theorem dX7_readStatement_72 : decode cX7_readStatement 72 = .ok (.aload_n 0, 1) := by decide +kernel
theorem dX7_readStatement_73 : decode cX7_readStatement 73 = .ok (.getfield 51, 3) := by decide +kernel
theorem dX7_readStatement_76 : decode cX7_readStatement 76 = .ok (.ifCond .ne 19, 3) := by decide +kernel
theorem dX7_readStatement_79 : decode cX7_readStatement 79 = .ok (.aload_n 0, 1) := by decide +kernel
theorem dX7_readStatement_80 : decode cX7_readStatement 80 = .ok (.getfield 28, 3) := by decide +kernel
theorem dX7_readStatement_83 : decode cX7_readStatement 83 = .ok (.invokevirtual 96, 3) := by decide +kernel
theorem dX7_readStatement_86 : decode cX7_readStatement 86 = .ok (.aload_n 0, 1) := by decide +kernel
theorem dX7_readStatement_87 : decode cX7_readStatement 87 = .ok (.iconst 0, 1) := by decide +kernel
theorem dX7_readStatement_88 : decode cX7_readStatement 88 = .ok (.invokevirtual 124, 3) := by decide +kernel
theorem dX7_readStatement_91 : decode cX7_readStatement 91 = .ok (.istore_n 1, 1) := by decide +kernel
theorem dX7_readStatement_92 : decode cX7_readStatement 92 = .ok (.goto 10, 3) := by decide +kernel
theorem dX7_readStatement_95 : decode cX7_readStatement 95 = .ok (.aload_n 0, 1) := by decide +kernel
theorem dX7_readStatement_96 : decode cX7_readStatement 96 = .ok (.bipush (-2), 2) := by decide +kernel
theorem dX7_readStatement_98 : decode cX7_readStatement 98 = .ok (.invokevirtual 92, 3) := by decide +kernel
theorem dX7_readStatement_101 : decode cX7_readStatement 101 = .ok (.istore_n 1, 1) := by decide +kernel
theorem dX7_readStatement_102 : decode cX7_readStatement 102 = .ok (.iload_n 1, 1) := by decide +kernel
theorem dX7_readStatement_103 : decode cX7_readStatement 103 = .ok (.ifCond .eq 16, 3) := by decide +kernel
theorem dX7_readStatement_106 : decode cX7_readStatement 106 = .ok (.aload_n 0, 1) := by decide +kernel
theorem dX7_readStatement_107 : decode cX7_readStatement 107 = .ok (.bipush 59, 2) := by decide +kernel
theorem dX7_readStatement_109 : decode cX7_readStatement 109 = .ok (.invokevirtual 103, 3) := by decide +kernel
theorem dX7_readStatement_112 : decode cX7_readStatement 112 = .ok (.ifCond .eq 7, 3) := by decide +kernel
theorem dX7_readStatement_115 : decode cX7_readStatement 115 = .ok (.iconst 1, 1) := by decide +kernel
theorem dX7_readStatement_116 : decode cX7_readStatement 116 = .ok (.goto 4, 3) := by decide +kernel
theorem dX7_readStatement_119 : decode cX7_readStatement 119 = .ok (.iconst 0, 1) := by decide +kernel
theorem dX7_readStatement_120 : decode cX7_readStatement 120 = .ok (.ireturn, 1) := by decide +kernel
set_option maxRecDepth 20000 in
theorem ggX7_readEquation_X7_fail : GoodIn wsX7_readEquation wsX7_fail := goodIn_r _ [10, 11, 2, 12, 13, 114, 115, 116, 117, 118, 119, 120, 121, 122, 123, 130, 131, 132, 133, 134, 135] (by decide +kernel) (by decide +kernel)
set_option maxRecDepth 20000 in
theorem gX7_readEquation_X7_fail : GoodIn wsX7_readEquation (wsV RX7 92 RX7 yX7_fail wsX7_fail) := goodIn_app (goodIn_of _ (by decide +kernel)) ggX7_readEquation_X7_fail
set_option maxRecDepth 20000 in
theorem ggX7_readEquation_X9_advance : GoodIn wsX7_readEquation wsX9_advance := goodIn_r _ [18, 19, 20, 21, 22, 23, 24, 25, 26, 27, 28, 29, 130, 131, 132, 133, 134, 135] (by decide +kernel) (by decide +kernel)
set_option maxRecDepth 20000 in
theorem gX7_readEquation_X9_advance : GoodIn wsX7_readEquation (wsV RX7 96 RX9 yX9_advance wsX9_advance) := goodIn_app (goodIn_of _ (by decide +kernel)) ggX7_readEquation_X9_advance
set_option maxRecDepth 20000 in
theorem ggX7_readEquation_X7_takeNumber : GoodIn wsX7_readEquation wsX7_takeNumber := goodIn_r _ [33, 2, 34, 35, 6, 7, 8, 9, 10, 11, 12, 13, 14, 15, 16, 17, 18, 19, 20, 21, 22, 23, 24, 25, 26, 27, 28, 29, 114, 115, 116, 117, 118, 119, 120, 121, 122, 123, 130, 131, 132, 133, 134, 135] (by decide +kernel) (by decide +kernel)
set_option maxRecDepth 20000 in
theorem gX7_readEquation_X7_takeNumber : GoodIn wsX7_readEquation (wsV RX7 99 RX7 yX7_takeNumber wsX7_takeNumber) := goodIn_app (goodIn_of _ (by decide +kernel)) ggX7_readEquation_X7_takeNumber
set_option maxRecDepth 20000 in
theorem ggX7_readEquation_X9_isSign : GoodIn wsX7_readEquation wsX9_isSign := goodIn_r _ [39, 24, 23, 130, 131, 132, 133, 134, 135] (by decide +kernel) (by decide +kernel)
set_option maxRecDepth 20000 in
theorem gX7_readEquation_X9_isSign : GoodIn wsX7_readEquation (wsV RX7 127 RX9 yX9_isSign wsX9_isSign) := goodIn_app (goodIn_of _ (by decide +kernel)) ggX7_readEquation_X9_isSign
set_option maxRecDepth 20000 in
theorem ggX7_readEquation_X7_skipIf : GoodIn wsX7_readEquation wsX7_skipIf := goodIn_r _ [43, 2, 14, 15, 16, 17, 18, 19, 20, 21, 22, 23, 24, 25, 26, 27, 28, 29, 114, 115, 116, 117, 118, 119, 120, 121, 122, 123, 130, 131, 132, 133, 134, 135] (by decide +kernel) (by decide +kernel)
set_option maxRecDepth 20000 in
theorem gX7_readEquation_X7_skipIf : GoodIn wsX7_readEquation (wsV RX7 130 RX7 yX7_skipIf wsX7_skipIf) := goodIn_app (goodIn_of _ (by decide +kernel)) ggX7_readEquation_X7_skipIf
set_option maxRecDepth 20000 in
theorem ggX7_readEquation_X9_isWord : GoodIn wsX7_readEquation wsX9_isWord := goodIn_r _ [47, 24, 19, 22, 21, 48, 49, 50, 51, 52, 53, 54, 55, 56, 57, 58, 59, 60, 61, 62, 63, 64, 65, 66, 67, 68, 69, 70, 71, 72, 73, 74, 75, 76, 77, 78, 79, 80, 81, 82, 83, 84, 85, 86, 87, 88, 89, 90, 91, 92, 93, 94, 95, 96, 130, 131, 132, 133, 134, 135] (by decide +kernel) (by decide +kernel)
set_option maxRecDepth 20000 in
theorem gX7_readEquation_X9_isWord : GoodIn wsX7_readEquation (wsV RX7 88 RX9 yX9_isWord wsX9_isWord) := goodIn_app (goodIn_of _ (by decide +kernel)) ggX7_readEquation_X9_isWord
set_option maxRecDepth 20000 in
theorem ggX7_readEquation_X4_init_ : GoodIn wsX7_readEquation wsX4_init_ := goodIn_r _ [99, 100, 101, 102, 103, 104, 105, 106, 107, 108, 124, 125, 126, 127, 128, 129] (by decide +kernel) (by decide +kernel)
set_option maxRecDepth 20000 in
theorem gX7_readEquation_X4_init_ : GoodIn wsX7_readEquation (wsX4_init_) := ggX7_readEquation_X4_init_
set_option maxRecDepth 20000 in
theorem ggX7_readEquation_X7_keepRule : GoodIn wsX7_readEquation wsX7_keepRule := goodIn_r _ [112, 1, 113, 114, 115, 116, 117, 118, 119, 120, 121, 122, 123] (by decide +kernel) (by decide +kernel)
set_option maxRecDepth 20000 in
theorem gX7_readEquation_X7_keepRule : GoodIn wsX7_readEquation (wsV RX7 139 RX7 yX7_keepRule wsX7_keepRule) := goodIn_app (goodIn_of _ (by decide +kernel)) ggX7_readEquation_X7_keepRule
theorem dX7_readEquation_0 : decode cX7_readEquation 0 = .ok (.aload_n 0, 1) := by decide +kernel
theorem dX7_readEquation_1 : decode cX7_readEquation 1 = .ok (.getfield 44, 3) := by decide +kernel
theorem dX7_readEquation_4 : decode cX7_readEquation 4 = .ok (.iconst 4, 1) := by decide +kernel
theorem dX7_readEquation_5 : decode cX7_readEquation 5 = .ok (.if_icmp .lt 10, 3) := by decide +kernel
theorem dX7_readEquation_8 : decode cX7_readEquation 8 = .ok (.aload_n 0, 1) := by decide +kernel
theorem dX7_readEquation_9 : decode cX7_readEquation 9 = .ok (.bipush (-4), 2) := by decide +kernel
theorem dX7_readEquation_11 : decode cX7_readEquation 11 = .ok (.invokevirtual 92, 3) := by decide +kernel
theorem dX7_readEquation_14 : decode cX7_readEquation 14 = .ok (.ireturn, 1) := by decide +kernel
theorem dX7_readEquation_15 : decode cX7_readEquation 15 = .ok (.aload_n 0, 1) := by decide +kernel
theorem dX7_readEquation_16 : decode cX7_readEquation 16 = .ok (.getfield 28, 3) := by decide +kernel
theorem dX7_readEquation_19 : decode cX7_readEquation 19 = .ok (.invokevirtual 96, 3) := by decide +kernel
theorem dX7_readEquation_22 : decode cX7_readEquation 22 = .ok (.aload_n 0, 1) := by decide +kernel
theorem dX7_readEquation_23 : decode cX7_readEquation 23 = .ok (.iconst 1, 1) := by decide +kernel
theorem dX7_readEquation_24 : decode cX7_readEquation 24 = .ok (.bipush 9, 2) := by decide +kernel
theorem dX7_readEquation_26 : decode cX7_readEquation 26 = .ok (.invokevirtual 99, 3) := by decide +kernel
theorem dX7_readEquation_29 : decode cX7_readEquation 29 = .ok (.istore_n 1, 1) := by decide +kernel
theorem dX7_readEquation_30 : decode cX7_readEquation 30 = .ok (.iload_n 1, 1) := by decide +kernel
theorem dX7_readEquation_31 : decode cX7_readEquation 31 = .ok (.iconst (-1), 1) := by decide +kernel
theorem dX7_readEquation_32 : decode cX7_readEquation 32 = .ok (.if_icmp .ne 5, 3) := by decide +kernel
theorem dX7_readEquation_35 : decode cX7_readEquation 35 = .ok (.iconst 0, 1) := by decide +kernel
theorem dX7_readEquation_36 : decode cX7_readEquation 36 = .ok (.ireturn, 1) := by decide +kernel
theorem dX7_readEquation_37 : decode cX7_readEquation 37 = .ok (.aload_n 0, 1) := by decide +kernel
theorem dX7_readEquation_38 : decode cX7_readEquation 38 = .ok (.iconst 1, 1) := by decide +kernel
theorem dX7_readEquation_39 : decode cX7_readEquation 39 = .ok (.bipush 9, 2) := by decide +kernel
theorem dX7_readEquation_41 : decode cX7_readEquation 41 = .ok (.invokevirtual 99, 3) := by decide +kernel
theorem dX7_readEquation_44 : decode cX7_readEquation 44 = .ok (.istore_n 2, 1) := by decide +kernel
theorem dX7_readEquation_45 : decode cX7_readEquation 45 = .ok (.iload_n 2, 1) := by decide +kernel
theorem dX7_readEquation_46 : decode cX7_readEquation 46 = .ok (.iconst (-1), 1) := by decide +kernel
theorem dX7_readEquation_47 : decode cX7_readEquation 47 = .ok (.if_icmp .ne 5, 3) := by decide +kernel
theorem dX7_readEquation_50 : decode cX7_readEquation 50 = .ok (.iconst 0, 1) := by decide +kernel
theorem dX7_readEquation_51 : decode cX7_readEquation 51 = .ok (.ireturn, 1) := by decide +kernel
theorem dX7_readEquation_52 : decode cX7_readEquation 52 = .ok (.aload_n 0, 1) := by decide +kernel
theorem dX7_readEquation_53 : decode cX7_readEquation 53 = .ok (.iconst 1, 1) := by decide +kernel
theorem dX7_readEquation_54 : decode cX7_readEquation 54 = .ok (.bipush 9, 2) := by decide +kernel
theorem dX7_readEquation_56 : decode cX7_readEquation 56 = .ok (.invokevirtual 99, 3) := by decide +kernel
theorem dX7_readEquation_59 : decode cX7_readEquation 59 = .ok (.istore_n 3, 1) := by decide +kernel
theorem dX7_readEquation_60 : decode cX7_readEquation 60 = .ok (.iload_n 3, 1) := by decide +kernel
theorem dX7_readEquation_61 : decode cX7_readEquation 61 = .ok (.iconst (-1), 1) := by decide +kernel
theorem dX7_readEquation_62 : decode cX7_readEquation 62 = .ok (.if_icmp .ne 5, 3) := by decide +kernel
theorem dX7_readEquation_65 : decode cX7_readEquation 65 = .ok (.iconst 0, 1) := by decide +kernel
theorem dX7_readEquation_66 : decode cX7_readEquation 66 = .ok (.ireturn, 1) := by decide +kernel
theorem dX7_readEquation_67 : decode cX7_readEquation 67 = .ok (.aload_n 0, 1) := by decide +kernel
theorem dX7_readEquation_68 : decode cX7_readEquation 68 = .ok (.aload_n 0, 1) := by decide +kernel
theorem dX7_readEquation_69 : decode cX7_readEquation 69 = .ok (.getfield 28, 3) := by decide +kernel
theorem dX7_readEquation_72 : decode cX7_readEquation 72 = .ok (.bipush 45, 2) := by decide +kernel
theorem dX7_readEquation_74 : decode cX7_readEquation 74 = .ok (.invokevirtual 127, 3) := by decide +kernel
theorem dX7_readEquation_77 : decode cX7_readEquation 77 = .ok (.invokevirtual 130, 3) := by decide +kernel
theorem dX7_readEquation_80 : decode cX7_readEquation 80 = .ok (.istore 4, 2) := by decide +kernel
theorem dX7_readEquation_82 : decode cX7_readEquation 82 = .ok (.aload_n 0, 1) := by decide +kernel
theorem dX7_readEquation_83 : decode cX7_readEquation 83 = .ok (.iconst 0, 1) := by decide +kernel
theorem dX7_readEquation_84 : decode cX7_readEquation 84 = .ok (.bipush 99, 2) := by decide +kernel
theorem dX7_readEquation_86 : decode cX7_readEquation 86 = .ok (.invokevirtual 99, 3) := by decide +kernel
theorem dX7_readEquation_89 : decode cX7_readEquation 89 = .ok (.istore 5, 2) := by decide +kernel
theorem dX7_readEquation_91 : decode cX7_readEquation 91 = .ok (.iload 5, 2) := by decide +kernel
theorem dX7_readEquation_93 : decode cX7_readEquation 93 = .ok (.iconst (-1), 1) := by decide +kernel
theorem dX7_readEquation_94 : decode cX7_readEquation 94 = .ok (.if_icmp .ne 5, 3) := by decide +kernel
theorem dX7_readEquation_97 : decode cX7_readEquation 97 = .ok (.iconst 0, 1) := by decide +kernel
theorem dX7_readEquation_98 : decode cX7_readEquation 98 = .ok (.ireturn, 1) := by decide +kernel
theorem dX7_readEquation_99 : decode cX7_readEquation 99 = .ok (.aload_n 0, 1) := by decide +kernel
theorem dX7_readEquation_100 : decode cX7_readEquation 100 = .ok (.aload_n 0, 1) := by decide +kernel
theorem dX7_readEquation_101 : decode cX7_readEquation 101 = .ok (.getfield 28, 3) := by decide +kernel
theorem dX7_readEquation_104 : decode cX7_readEquation 104 = .ok (.ldc 134, 2) := by decide +kernel
theorem dX7_readEquation_106 : decode cX7_readEquation 106 = .ok (.invokevirtual 88, 3) := by decide +kernel
theorem dX7_readEquation_109 : decode cX7_readEquation 109 = .ok (.invokevirtual 130, 3) := by decide +kernel
theorem dX7_readEquation_112 : decode cX7_readEquation 112 = .ok (.istore 6, 2) := by decide +kernel
theorem dX7_readEquation_114 : decode cX7_readEquation 114 = .ok (.aload_n 0, 1) := by decide +kernel
theorem dX7_readEquation_115 : decode cX7_readEquation 115 = .ok (.new 38, 3) := by decide +kernel
theorem dX7_readEquation_118 : decode cX7_readEquation 118 = .ok (.dup, 1) := by decide +kernel
theorem dX7_readEquation_119 : decode cX7_readEquation 119 = .ok (.iload_n 1, 1) := by decide +kernel
theorem dX7_readEquation_120 : decode cX7_readEquation 120 = .ok (.iload_n 2, 1) := by decide +kernel
theorem dX7_readEquation_121 : decode cX7_readEquation 121 = .ok (.iload_n 3, 1) := by decide +kernel
theorem dX7_readEquation_122 : decode cX7_readEquation 122 = .ok (.iload 4, 2) := by decide +kernel
theorem dX7_readEquation_124 : decode cX7_readEquation 124 = .ok (.ifCond .eq 9, 3) := by decide +kernel
theorem dX7_readEquation_127 : decode cX7_readEquation 127 = .ok (.iload 5, 2) := by decide +kernel
theorem dX7_readEquation_129 : decode cX7_readEquation 129 = .ok (.ineg, 1) := by decide +kernel
theorem dX7_readEquation_130 : decode cX7_readEquation 130 = .ok (.goto 5, 3) := by decide +kernel
theorem dX7_readEquation_133 : decode cX7_readEquation 133 = .ok (.iload 5, 2) := by decide +kernel
theorem dX7_readEquation_135 : decode cX7_readEquation 135 = .ok (.iload 6, 2) := by decide +kernel
theorem dX7_readEquation_137 : decode cX7_readEquation 137 = .ok (.invokespecial 136, 3) := by decide +kernel
theorem dX7_readEquation_140 : decode cX7_readEquation 140 = .ok (.invokevirtual 139, 3) := by decide +kernel
theorem dX7_readEquation_143 : decode cX7_readEquation 143 = .ok (.iconst 1, 1) := by decide +kernel
theorem dX7_readEquation_144 : decode cX7_readEquation 144 = .ok (.ireturn, 1) := by decide +kernel
set_option maxRecDepth 20000 in
theorem ggX7_readProgression_X7_fail : GoodIn wsX7_readProgression wsX7_fail := goodIn_r _ [10, 11, 2, 12, 13, 53, 54, 55, 56, 57, 58, 59, 60, 61, 62, 69, 70, 71, 72, 73, 74] (by decide +kernel) (by decide +kernel)
set_option maxRecDepth 20000 in
theorem gX7_readProgression_X7_fail : GoodIn wsX7_readProgression (wsV RX7 92 RX7 yX7_fail wsX7_fail) := goodIn_app (goodIn_of _ (by decide +kernel)) ggX7_readProgression_X7_fail
set_option maxRecDepth 20000 in
theorem ggX7_readProgression_X9_advance : GoodIn wsX7_readProgression wsX9_advance := goodIn_r _ [18, 19, 20, 21, 22, 23, 24, 25, 26, 27, 28, 29, 69, 70, 71, 72, 73, 74] (by decide +kernel) (by decide +kernel)
set_option maxRecDepth 20000 in
theorem gX7_readProgression_X9_advance : GoodIn wsX7_readProgression (wsV RX7 96 RX9 yX9_advance wsX9_advance) := goodIn_app (goodIn_of _ (by decide +kernel)) ggX7_readProgression_X9_advance
set_option maxRecDepth 20000 in
theorem ggX7_readProgression_X7_takeNumber : GoodIn wsX7_readProgression wsX7_takeNumber := goodIn_r _ [33, 2, 34, 35, 6, 7, 8, 9, 10, 11, 12, 13, 14, 15, 16, 17, 18, 19, 20, 21, 22, 23, 24, 25, 26, 27, 28, 29, 53, 54, 55, 56, 57, 58, 59, 60, 61, 62, 69, 70, 71, 72, 73, 74] (by decide +kernel) (by decide +kernel)
set_option maxRecDepth 20000 in
theorem gX7_readProgression_X7_takeNumber : GoodIn wsX7_readProgression (wsV RX7 99 RX7 yX7_takeNumber wsX7_takeNumber) := goodIn_app (goodIn_of _ (by decide +kernel)) ggX7_readProgression_X7_takeNumber
set_option maxRecDepth 20000 in
theorem ggX7_readProgression_X4_init : GoodIn wsX7_readProgression wsX4_init := goodIn_r _ [38, 39, 40, 41, 42, 43, 44, 45, 46, 47, 63, 64, 65, 66, 67, 68] (by decide +kernel) (by decide +kernel)
set_option maxRecDepth 20000 in
theorem gX7_readProgression_X4_init : GoodIn wsX7_readProgression (wsX4_init) := ggX7_readProgression_X4_init
set_option maxRecDepth 20000 in
theorem ggX7_readProgression_X7_keepRule : GoodIn wsX7_readProgression wsX7_keepRule := goodIn_r _ [51, 1, 52, 53, 54, 55, 56, 57, 58, 59, 60, 61, 62] (by decide +kernel) (by decide +kernel)
set_option maxRecDepth 20000 in
theorem gX7_readProgression_X7_keepRule : GoodIn wsX7_readProgression (wsV RX7 139 RX7 yX7_keepRule wsX7_keepRule) := goodIn_app (goodIn_of _ (by decide +kernel)) ggX7_readProgression_X7_keepRule
theorem dX7_readProgression_0 : decode cX7_readProgression 0 = .ok (.aload_n 0, 1) := by decide +kernel
theorem dX7_readProgression_1 : decode cX7_readProgression 1 = .ok (.getfield 44, 3) := by decide +kernel
theorem dX7_readProgression_4 : decode cX7_readProgression 4 = .ok (.iconst 4, 1) := by decide +kernel
theorem dX7_readProgression_5 : decode cX7_readProgression 5 = .ok (.if_icmp .lt 10, 3) := by decide +kernel
theorem dX7_readProgression_8 : decode cX7_readProgression 8 = .ok (.aload_n 0, 1) := by decide +kernel
theorem dX7_readProgression_9 : decode cX7_readProgression 9 = .ok (.bipush (-4), 2) := by decide +kernel
theorem dX7_readProgression_11 : decode cX7_readProgression 11 = .ok (.invokevirtual 92, 3) := by decide +kernel
theorem dX7_readProgression_14 : decode cX7_readProgression 14 = .ok (.ireturn, 1) := by decide +kernel
theorem dX7_readProgression_15 : decode cX7_readProgression 15 = .ok (.aload_n 0, 1) := by decide +kernel
theorem dX7_readProgression_16 : decode cX7_readProgression 16 = .ok (.getfield 28, 3) := by decide +kernel
theorem dX7_readProgression_19 : decode cX7_readProgression 19 = .ok (.invokevirtual 96, 3) := by decide +kernel
theorem dX7_readProgression_22 : decode cX7_readProgression 22 = .ok (.aload_n 0, 1) := by decide +kernel
theorem dX7_readProgression_23 : decode cX7_readProgression 23 = .ok (.iconst 3, 1) := by decide +kernel
theorem dX7_readProgression_24 : decode cX7_readProgression 24 = .ok (.bipush 6, 2) := by decide +kernel
theorem dX7_readProgression_26 : decode cX7_readProgression 26 = .ok (.invokevirtual 99, 3) := by decide +kernel
theorem dX7_readProgression_29 : decode cX7_readProgression 29 = .ok (.istore_n 1, 1) := by decide +kernel
theorem dX7_readProgression_30 : decode cX7_readProgression 30 = .ok (.iload_n 1, 1) := by decide +kernel
theorem dX7_readProgression_31 : decode cX7_readProgression 31 = .ok (.iconst (-1), 1) := by decide +kernel
theorem dX7_readProgression_32 : decode cX7_readProgression 32 = .ok (.if_icmp .ne 5, 3) := by decide +kernel
theorem dX7_readProgression_35 : decode cX7_readProgression 35 = .ok (.iconst 0, 1) := by decide +kernel
theorem dX7_readProgression_36 : decode cX7_readProgression 36 = .ok (.ireturn, 1) := by decide +kernel
theorem dX7_readProgression_37 : decode cX7_readProgression 37 = .ok (.aload_n 0, 1) := by decide +kernel
theorem dX7_readProgression_38 : decode cX7_readProgression 38 = .ok (.new 38, 3) := by decide +kernel
theorem dX7_readProgression_41 : decode cX7_readProgression 41 = .ok (.dup, 1) := by decide +kernel
theorem dX7_readProgression_42 : decode cX7_readProgression 42 = .ok (.iload_n 1, 1) := by decide +kernel
theorem dX7_readProgression_43 : decode cX7_readProgression 43 = .ok (.invokespecial 143, 3) := by decide +kernel
theorem dX7_readProgression_46 : decode cX7_readProgression 46 = .ok (.invokevirtual 139, 3) := by decide +kernel
theorem dX7_readProgression_49 : decode cX7_readProgression 49 = .ok (.iconst 1, 1) := by decide +kernel
theorem dX7_readProgression_50 : decode cX7_readProgression 50 = .ok (.ireturn, 1) := by decide +kernel
theorem dX7_keepRule_0 : decode cX7_keepRule 0 = .ok (.aload_n 0, 1) := by decide +kernel
theorem dX7_keepRule_1 : decode cX7_keepRule 1 = .ok (.getfield 44, 3) := by decide +kernel
theorem dX7_keepRule_4 : decode cX7_keepRule 4 = .ok (.aload_n 0, 1) := by decide +kernel
theorem dX7_keepRule_5 : decode cX7_keepRule 5 = .ok (.getfield 40, 3) := by decide +kernel
theorem dX7_keepRule_8 : decode cX7_keepRule 8 = .ok (.arraylength, 1) := by decide +kernel
theorem dX7_keepRule_9 : decode cX7_keepRule 9 = .ok (.if_icmp .ge 23, 3) := by decide +kernel
theorem dX7_keepRule_12 : decode cX7_keepRule 12 = .ok (.aload_n 0, 1) := by decide +kernel
theorem dX7_keepRule_13 : decode cX7_keepRule 13 = .ok (.getfield 40, 3) := by decide +kernel
theorem dX7_keepRule_16 : decode cX7_keepRule 16 = .ok (.aload_n 0, 1) := by decide +kernel
theorem dX7_keepRule_17 : decode cX7_keepRule 17 = .ok (.getfield 44, 3) := by decide +kernel
theorem dX7_keepRule_20 : decode cX7_keepRule 20 = .ok (.aload_n 1, 1) := by decide +kernel
theorem dX7_keepRule_21 : decode cX7_keepRule 21 = .ok (.aastore, 1) := by decide +kernel
theorem dX7_keepRule_22 : decode cX7_keepRule 22 = .ok (.aload_n 0, 1) := by decide +kernel
theorem dX7_keepRule_23 : decode cX7_keepRule 23 = .ok (.dup, 1) := by decide +kernel
theorem dX7_keepRule_24 : decode cX7_keepRule 24 = .ok (.getfield 44, 3) := by decide +kernel
theorem dX7_keepRule_27 : decode cX7_keepRule 27 = .ok (.iconst 1, 1) := by decide +kernel
theorem dX7_keepRule_28 : decode cX7_keepRule 28 = .ok (.iadd, 1) := by decide +kernel
theorem dX7_keepRule_29 : decode cX7_keepRule 29 = .ok (.putfield 44, 3) := by decide +kernel
theorem dX7_keepRule_32 : decode cX7_keepRule 32 = .ok (.return_, 1) := by decide +kernel
set_option maxRecDepth 20000 in
theorem ggX7_readColour_X9_advance : GoodIn wsX7_readColour wsX9_advance := goodIn_r _ [9, 10, 11, 12, 13, 14, 15, 16, 17, 18, 19, 20, 114, 115, 116, 117, 118, 119] (by decide +kernel) (by decide +kernel)
set_option maxRecDepth 20000 in
theorem gX7_readColour_X9_advance : GoodIn wsX7_readColour (wsV RX7 96 RX9 yX9_advance wsX9_advance) := goodIn_app (goodIn_of _ (by decide +kernel)) ggX7_readColour_X9_advance
set_option maxRecDepth 20000 in
theorem ggX7_readColour_X7_takeNumber : GoodIn wsX7_readColour wsX7_takeNumber := goodIn_r _ [25, 1, 26, 27, 28, 29, 30, 24, 31, 32, 33, 34, 5, 6, 7, 8, 9, 10, 11, 12, 13, 14, 15, 16, 17, 18, 19, 20, 104, 105, 106, 107, 108, 109, 110, 111, 112, 113, 114, 115, 116, 117, 118, 119] (by decide +kernel) (by decide +kernel)
set_option maxRecDepth 20000 in
theorem gX7_readColour_X7_takeNumber : GoodIn wsX7_readColour (wsV RX7 99 RX7 yX7_takeNumber wsX7_takeNumber) := goodIn_app (goodIn_of _ (by decide +kernel)) ggX7_readColour_X7_takeNumber
set_option maxRecDepth 20000 in
theorem ggX7_readColour_X0_paint : GoodIn wsX7_readColour wsX0_paint := goodIn_r _ [39, 40, 41, 120, 121] (by decide +kernel) (by decide +kernel)
set_option maxRecDepth 20000 in
theorem gX7_readColour_X0_paint : GoodIn wsX7_readColour (wsV RX7 146 RX0 yX0_paint wsX0_paint) := goodIn_app (goodIn_of _ (by decide +kernel)) ggX7_readColour_X0_paint
set_option maxRecDepth 20000 in
theorem ggX7_readColour_X9_isWord : GoodIn wsX7_readColour wsX9_isWord := goodIn_r _ [45, 15, 10, 13, 12, 46, 47, 48, 49, 50, 51, 52, 53, 54, 55, 56, 57, 58, 59, 60, 61, 62, 63, 64, 65, 66, 67, 68, 69, 70, 71, 72, 73, 74, 75, 76, 77, 78, 79, 80, 81, 82, 83, 84, 85, 86, 87, 88, 89, 90, 91, 92, 93, 94, 114, 115, 116, 117, 118, 119] (by decide +kernel) (by decide +kernel)
set_option maxRecDepth 20000 in
theorem gX7_readColour_X9_isWord : GoodIn wsX7_readColour (wsV RX7 88 RX9 yX9_isWord wsX9_isWord) := goodIn_app (goodIn_of _ (by decide +kernel)) ggX7_readColour_X9_isWord
set_option maxRecDepth 20000 in
theorem ggX7_readColour_X7_skipIf : GoodIn wsX7_readColour wsX7_skipIf := goodIn_r _ [98, 1, 5, 6, 7, 8, 9, 10, 11, 12, 13, 14, 15, 16, 17, 18, 19, 20, 104, 105, 106, 107, 108, 109, 110, 111, 112, 113, 114, 115, 116, 117, 118, 119] (by decide +kernel) (by decide +kernel)
set_option maxRecDepth 20000 in
theorem gX7_readColour_X7_skipIf : GoodIn wsX7_readColour (wsV RX7 130 RX7 yX7_skipIf wsX7_skipIf) := goodIn_app (goodIn_of _ (by decide +kernel)) ggX7_readColour_X7_skipIf
set_option maxRecDepth 20000 in
theorem ggX7_readColour_X0_fix : GoodIn wsX7_readColour wsX0_fix := goodIn_r _ [102, 103, 41, 120, 121] (by decide +kernel) (by decide +kernel)
set_option maxRecDepth 20000 in
theorem gX7_readColour_X0_fix : GoodIn wsX7_readColour (wsV RX7 152 RX0 yX0_fix wsX0_fix) := goodIn_app (goodIn_of _ (by decide +kernel)) ggX7_readColour_X0_fix
theorem dX7_readColour_0 : decode cX7_readColour 0 = .ok (.aload_n 0, 1) := by decide +kernel
theorem dX7_readColour_1 : decode cX7_readColour 1 = .ok (.getfield 28, 3) := by decide +kernel
theorem dX7_readColour_4 : decode cX7_readColour 4 = .ok (.invokevirtual 96, 3) := by decide +kernel
theorem dX7_readColour_7 : decode cX7_readColour 7 = .ok (.aload_n 0, 1) := by decide +kernel
theorem dX7_readColour_8 : decode cX7_readColour 8 = .ok (.iconst 1, 1) := by decide +kernel
theorem dX7_readColour_9 : decode cX7_readColour 9 = .ok (.aload_n 0, 1) := by decide +kernel
theorem dX7_readColour_10 : decode cX7_readColour 10 = .ok (.getfield 32, 3) := by decide +kernel
theorem dX7_readColour_13 : decode cX7_readColour 13 = .ok (.invokevirtual 99, 3) := by decide +kernel
theorem dX7_readColour_16 : decode cX7_readColour 16 = .ok (.istore_n 1, 1) := by decide +kernel
theorem dX7_readColour_17 : decode cX7_readColour 17 = .ok (.iload_n 1, 1) := by decide +kernel
theorem dX7_readColour_18 : decode cX7_readColour 18 = .ok (.iconst (-1), 1) := by decide +kernel
theorem dX7_readColour_19 : decode cX7_readColour 19 = .ok (.if_icmp .ne 5, 3) := by decide +kernel
theorem dX7_readColour_22 : decode cX7_readColour 22 = .ok (.iconst 0, 1) := by decide +kernel
theorem dX7_readColour_23 : decode cX7_readColour 23 = .ok (.ireturn, 1) := by decide +kernel
theorem dX7_readColour_24 : decode cX7_readColour 24 = .ok (.aload_n 0, 1) := by decide +kernel
theorem dX7_readColour_25 : decode cX7_readColour 25 = .ok (.iconst 0, 1) := by decide +kernel
theorem dX7_readColour_26 : decode cX7_readColour 26 = .ok (.aload_n 0, 1) := by decide +kernel
theorem dX7_readColour_27 : decode cX7_readColour 27 = .ok (.getfield 35, 3) := by decide +kernel
theorem dX7_readColour_30 : decode cX7_readColour 30 = .ok (.iconst 1, 1) := by decide +kernel
theorem dX7_readColour_31 : decode cX7_readColour 31 = .ok (.isub, 1) := by decide +kernel
theorem dX7_readColour_32 : decode cX7_readColour 32 = .ok (.invokevirtual 99, 3) := by decide +kernel
theorem dX7_readColour_35 : decode cX7_readColour 35 = .ok (.istore_n 2, 1) := by decide +kernel
theorem dX7_readColour_36 : decode cX7_readColour 36 = .ok (.iload_n 2, 1) := by decide +kernel
theorem dX7_readColour_37 : decode cX7_readColour 37 = .ok (.iconst (-1), 1) := by decide +kernel
theorem dX7_readColour_38 : decode cX7_readColour 38 = .ok (.if_icmp .ne 5, 3) := by decide +kernel
theorem dX7_readColour_41 : decode cX7_readColour 41 = .ok (.iconst 0, 1) := by decide +kernel
theorem dX7_readColour_42 : decode cX7_readColour 42 = .ok (.ireturn, 1) := by decide +kernel
theorem dX7_readColour_43 : decode cX7_readColour 43 = .ok (.aload_n 0, 1) := by decide +kernel
theorem dX7_readColour_44 : decode cX7_readColour 44 = .ok (.getfield 21, 3) := by decide +kernel
theorem dX7_readColour_47 : decode cX7_readColour 47 = .ok (.iload_n 1, 1) := by decide +kernel
theorem dX7_readColour_48 : decode cX7_readColour 48 = .ok (.iload_n 2, 1) := by decide +kernel
theorem dX7_readColour_49 : decode cX7_readColour 49 = .ok (.invokevirtual 146, 3) := by decide +kernel
theorem dX7_readColour_52 : decode cX7_readColour 52 = .ok (.aload_n 0, 1) := by decide +kernel
theorem dX7_readColour_53 : decode cX7_readColour 53 = .ok (.getfield 21, 3) := by decide +kernel
theorem dX7_readColour_56 : decode cX7_readColour 56 = .ok (.iload_n 1, 1) := by decide +kernel
theorem dX7_readColour_57 : decode cX7_readColour 57 = .ok (.aload_n 0, 1) := by decide +kernel
theorem dX7_readColour_58 : decode cX7_readColour 58 = .ok (.aload_n 0, 1) := by decide +kernel
theorem dX7_readColour_59 : decode cX7_readColour 59 = .ok (.getfield 28, 3) := by decide +kernel
theorem dX7_readColour_62 : decode cX7_readColour 62 = .ok (.ldc 150, 2) := by decide +kernel
theorem dX7_readColour_64 : decode cX7_readColour 64 = .ok (.invokevirtual 88, 3) := by decide +kernel
theorem dX7_readColour_67 : decode cX7_readColour 67 = .ok (.invokevirtual 130, 3) := by decide +kernel
theorem dX7_readColour_70 : decode cX7_readColour 70 = .ok (.invokevirtual 152, 3) := by decide +kernel
theorem dX7_readColour_73 : decode cX7_readColour 73 = .ok (.iconst 1, 1) := by decide +kernel
theorem dX7_readColour_74 : decode cX7_readColour 74 = .ok (.ireturn, 1) := by decide +kernel
set_option maxRecDepth 20000 in
theorem ggX7_readSum_X7_readTerm : GoodIn wsX7_readSum wsX7_readTerm := goodIn_r _ [110, 1, 111, 112, 113, 5, 6, 7, 8, 9, 10, 11, 12, 13, 14, 15, 16, 17, 18, 19, 20, 21, 22, 23, 24, 25, 26, 27, 28, 29, 30, 31, 32, 33, 34, 35, 36, 37, 38, 39, 40, 41, 42, 43, 44, 45, 46, 47, 48, 49, 50, 51, 52, 53, 54, 55, 56, 57, 58, 59, 60, 61, 62, 63, 64, 65, 66, 67, 68, 69, 70, 71, 72, 73, 74, 75, 76, 77, 78, 79, 80, 81, 82, 83, 84, 85, 86, 87, 88, 89, 90, 91, 92, 93, 94, 95, 96, 97, 98, 99, 100, 101, 102, 103, 104, 105, 106, 107, 108, 109, 0, 2, 3, 4, 114, 115, 116, 117, 118, 119, 120, 121, 122, 123, 124, 125, 126, 127, 128, 129] (by decide +kernel) (by decide +kernel)
set_option maxRecDepth 20000 in
theorem gX7_readSum_X7_readTerm : GoodIn wsX7_readSum (wsV RX7 156 RX7 yX7_readTerm wsX7_readTerm) := goodIn_app (goodIn_of _ (by decide +kernel)) ggX7_readSum_X7_readTerm
set_option maxRecDepth 20000 in
theorem ggX7_readSum_X9_isSign : GoodIn wsX7_readSum wsX9_isSign := goodIn_r _ [10, 11, 12, 124, 125, 126, 127, 128, 129] (by decide +kernel) (by decide +kernel)
set_option maxRecDepth 20000 in
theorem gX7_readSum_X9_isSign : GoodIn wsX7_readSum (wsV RX7 127 RX9 yX9_isSign wsX9_isSign) := goodIn_app (goodIn_of _ (by decide +kernel)) ggX7_readSum_X9_isSign
set_option maxRecDepth 20000 in
theorem ggX7_readSum_X9_advance : GoodIn wsX7_readSum wsX9_advance := goodIn_r _ [16, 17, 18, 19, 20, 12, 11, 21, 22, 23, 24, 25, 124, 125, 126, 127, 128, 129] (by decide +kernel) (by decide +kernel)
set_option maxRecDepth 20000 in
theorem gX7_readSum_X9_advance : GoodIn wsX7_readSum (wsV RX7 96 RX9 yX9_advance wsX9_advance) := goodIn_app (goodIn_of _ (by decide +kernel)) ggX7_readSum_X9_advance
set_option maxRecDepth 20000 in
theorem ggX7_readSum_X7_put : GoodIn wsX7_readSum wsX7_put := goodIn_r _ [29, 30, 31, 114, 115, 116, 117, 118, 119, 120, 121, 122, 123] (by decide +kernel) (by decide +kernel)
set_option maxRecDepth 20000 in
theorem gX7_readSum_X7_put : GoodIn wsX7_readSum (wsV RX7 159 RX7 yX7_put wsX7_put) := goodIn_app (goodIn_of _ (by decide +kernel)) ggX7_readSum_X7_put
theorem dX7_readSum_0 : decode cX7_readSum 0 = .ok (.aload_n 0, 1) := by decide +kernel
theorem dX7_readSum_1 : decode cX7_readSum 1 = .ok (.iload_n 1, 1) := by decide +kernel
theorem dX7_readSum_2 : decode cX7_readSum 2 = .ok (.invokevirtual 156, 3) := by decide +kernel
theorem dX7_readSum_5 : decode cX7_readSum 5 = .ok (.istore_n 2, 1) := by decide +kernel
theorem dX7_readSum_6 : decode cX7_readSum 6 = .ok (.iconst 0, 1) := by decide +kernel
theorem dX7_readSum_7 : decode cX7_readSum 7 = .ok (.istore_n 3, 1) := by decide +kernel
theorem dX7_readSum_8 : decode cX7_readSum 8 = .ok (.iload_n 2, 1) := by decide +kernel
theorem dX7_readSum_9 : decode cX7_readSum 9 = .ok (.ifCond .eq 90, 3) := by decide +kernel
theorem dX7_readSum_12 : decode cX7_readSum 12 = .ok (.aload_n 0, 1) := by decide +kernel
theorem dX7_readSum_13 : decode cX7_readSum 13 = .ok (.getfield 28, 3) := by decide +kernel
theorem dX7_readSum_16 : decode cX7_readSum 16 = .ok (.bipush 43, 2) := by decide +kernel
theorem dX7_readSum_18 : decode cX7_readSum 18 = .ok (.invokevirtual 127, 3) := by decide +kernel
theorem dX7_readSum_21 : decode cX7_readSum 21 = .ok (.ifCond .ne 15, 3) := by decide +kernel
theorem dX7_readSum_24 : decode cX7_readSum 24 = .ok (.aload_n 0, 1) := by decide +kernel
theorem dX7_readSum_25 : decode cX7_readSum 25 = .ok (.getfield 28, 3) := by decide +kernel
theorem dX7_readSum_28 : decode cX7_readSum 28 = .ok (.bipush 45, 2) := by decide +kernel
theorem dX7_readSum_30 : decode cX7_readSum 30 = .ok (.invokevirtual 127, 3) := by decide +kernel
theorem dX7_readSum_33 : decode cX7_readSum 33 = .ok (.ifCond .eq 66, 3) := by decide +kernel
theorem dX7_readSum_36 : decode cX7_readSum 36 = .ok (.iload_n 3, 1) := by decide +kernel
theorem dX7_readSum_37 : decode cX7_readSum 37 = .ok (.sipush 600, 3) := by decide +kernel
theorem dX7_readSum_40 : decode cX7_readSum 40 = .ok (.if_icmp .ge 59, 3) := by decide +kernel
theorem dX7_readSum_43 : decode cX7_readSum 43 = .ok (.aload_n 0, 1) := by decide +kernel
theorem dX7_readSum_44 : decode cX7_readSum 44 = .ok (.getfield 28, 3) := by decide +kernel
theorem dX7_readSum_47 : decode cX7_readSum 47 = .ok (.bipush 43, 2) := by decide +kernel
theorem dX7_readSum_49 : decode cX7_readSum 49 = .ok (.invokevirtual 127, 3) := by decide +kernel
theorem dX7_readSum_52 : decode cX7_readSum 52 = .ok (.ifCond .eq 7, 3) := by decide +kernel
theorem dX7_readSum_55 : decode cX7_readSum 55 = .ok (.iconst (-1), 1) := by decide +kernel
theorem dX7_readSum_56 : decode cX7_readSum 56 = .ok (.goto 5, 3) := by decide +kernel
theorem dX7_readSum_59 : decode cX7_readSum 59 = .ok (.bipush (-2), 2) := by decide +kernel
theorem dX7_readSum_61 : decode cX7_readSum 61 = .ok (.istore 4, 2) := by decide +kernel
theorem dX7_readSum_63 : decode cX7_readSum 63 = .ok (.aload_n 0, 1) := by decide +kernel
theorem dX7_readSum_64 : decode cX7_readSum 64 = .ok (.getfield 28, 3) := by decide +kernel
theorem dX7_readSum_67 : decode cX7_readSum 67 = .ok (.invokevirtual 96, 3) := by decide +kernel
theorem dX7_readSum_70 : decode cX7_readSum 70 = .ok (.aload_n 0, 1) := by decide +kernel
theorem dX7_readSum_71 : decode cX7_readSum 71 = .ok (.iload_n 1, 1) := by decide +kernel
theorem dX7_readSum_72 : decode cX7_readSum 72 = .ok (.invokevirtual 156, 3) := by decide +kernel
theorem dX7_readSum_75 : decode cX7_readSum 75 = .ok (.ifCond .eq 16, 3) := by decide +kernel
theorem dX7_readSum_78 : decode cX7_readSum 78 = .ok (.aload_n 0, 1) := by decide +kernel
theorem dX7_readSum_79 : decode cX7_readSum 79 = .ok (.iload 4, 2) := by decide +kernel
theorem dX7_readSum_81 : decode cX7_readSum 81 = .ok (.invokevirtual 159, 3) := by decide +kernel
theorem dX7_readSum_84 : decode cX7_readSum 84 = .ok (.ifCond .eq 7, 3) := by decide +kernel
theorem dX7_readSum_87 : decode cX7_readSum 87 = .ok (.iconst 1, 1) := by decide +kernel
theorem dX7_readSum_88 : decode cX7_readSum 88 = .ok (.goto 4, 3) := by decide +kernel
theorem dX7_readSum_91 : decode cX7_readSum 91 = .ok (.iconst 0, 1) := by decide +kernel
theorem dX7_readSum_92 : decode cX7_readSum 92 = .ok (.istore_n 2, 1) := by decide +kernel
theorem dX7_readSum_93 : decode cX7_readSum 93 = .ok (.iinc 3 1, 3) := by decide +kernel
theorem dX7_readSum_96 : decode cX7_readSum 96 = .ok (.goto (-88), 3) := by decide +kernel
theorem dX7_readSum_99 : decode cX7_readSum 99 = .ok (.iload_n 2, 1) := by decide +kernel
theorem dX7_readSum_100 : decode cX7_readSum 100 = .ok (.ireturn, 1) := by decide +kernel
set_option maxRecDepth 20000 in
theorem ggX7_readTerm_X7_readFactor : GoodIn wsX7_readTerm wsX7_readFactor := goodIn_r _ [32, 1, 33, 6, 7, 8, 9, 10, 11, 12, 34, 35, 36, 5, 37, 38, 39, 40, 13, 14, 15, 16, 17, 18, 19, 20, 21, 22, 23, 24, 25, 41, 42, 43, 44, 45, 46, 47, 48, 49, 50, 51, 52, 26, 27, 28, 29, 30, 31, 53, 54, 55, 56, 57, 58, 59, 60, 61, 62, 63, 64, 65, 66, 67, 68, 69, 70, 71, 72, 73, 74, 75, 76, 77, 78, 79, 80, 81, 82, 83, 84, 85, 86, 87, 88, 89, 90, 91, 92, 93, 94, 95, 96, 97, 98, 99, 100, 101, 102, 103, 104, 105, 106, 107, 108, 109, 110, 111, 112, 113, 0, 2, 3, 4, 114, 115, 116, 117, 118, 119, 120, 121, 122, 123, 124, 125, 126, 127, 128, 129] (by decide +kernel) (by decide +kernel)
set_option maxRecDepth 20000 in
theorem gX7_readTerm_X7_readFactor : GoodIn wsX7_readTerm (wsV RX7 162 RX7 yX7_readFactor wsX7_readFactor) := goodIn_app (goodIn_of _ (by decide +kernel)) ggX7_readTerm_X7_readFactor
set_option maxRecDepth 20000 in
theorem ggX7_readTerm_X9_isSign : GoodIn wsX7_readTerm wsX9_isSign := goodIn_r _ [10, 11, 12, 124, 125, 126, 127, 128, 129] (by decide +kernel) (by decide +kernel)
set_option maxRecDepth 20000 in
theorem gX7_readTerm_X9_isSign : GoodIn wsX7_readTerm (wsV RX7 127 RX9 yX9_isSign wsX9_isSign) := goodIn_app (goodIn_of _ (by decide +kernel)) ggX7_readTerm_X9_isSign
set_option maxRecDepth 20000 in
theorem ggX7_readTerm_X9_advance : GoodIn wsX7_readTerm wsX9_advance := goodIn_r _ [16, 17, 18, 19, 20, 12, 11, 21, 22, 23, 24, 25, 124, 125, 126, 127, 128, 129] (by decide +kernel) (by decide +kernel)
set_option maxRecDepth 20000 in
theorem gX7_readTerm_X9_advance : GoodIn wsX7_readTerm (wsV RX7 96 RX9 yX9_advance wsX9_advance) := goodIn_app (goodIn_of _ (by decide +kernel)) ggX7_readTerm_X9_advance
set_option maxRecDepth 20000 in
theorem ggX7_readTerm_X7_put : GoodIn wsX7_readTerm wsX7_put := goodIn_r _ [29, 30, 31, 114, 115, 116, 117, 118, 119, 120, 121, 122, 123] (by decide +kernel) (by decide +kernel)
set_option maxRecDepth 20000 in
theorem gX7_readTerm_X7_put : GoodIn wsX7_readTerm (wsV RX7 159 RX7 yX7_put wsX7_put) := goodIn_app (goodIn_of _ (by decide +kernel)) ggX7_readTerm_X7_put
theorem dX7_readTerm_0 : decode cX7_readTerm 0 = .ok (.aload_n 0, 1) := by decide +kernel
theorem dX7_readTerm_1 : decode cX7_readTerm 1 = .ok (.iload_n 1, 1) := by decide +kernel
theorem dX7_readTerm_2 : decode cX7_readTerm 2 = .ok (.invokevirtual 162, 3) := by decide +kernel
theorem dX7_readTerm_5 : decode cX7_readTerm 5 = .ok (.istore_n 2, 1) := by decide +kernel
theorem dX7_readTerm_6 : decode cX7_readTerm 6 = .ok (.iconst 0, 1) := by decide +kernel
theorem dX7_readTerm_7 : decode cX7_readTerm 7 = .ok (.istore_n 3, 1) := by decide +kernel
theorem dX7_readTerm_8 : decode cX7_readTerm 8 = .ok (.iload_n 2, 1) := by decide +kernel
theorem dX7_readTerm_9 : decode cX7_readTerm 9 = .ok (.ifCond .eq 91, 3) := by decide +kernel
theorem dX7_readTerm_12 : decode cX7_readTerm 12 = .ok (.aload_n 0, 1) := by decide +kernel
theorem dX7_readTerm_13 : decode cX7_readTerm 13 = .ok (.getfield 28, 3) := by decide +kernel
theorem dX7_readTerm_16 : decode cX7_readTerm 16 = .ok (.bipush 42, 2) := by decide +kernel
theorem dX7_readTerm_18 : decode cX7_readTerm 18 = .ok (.invokevirtual 127, 3) := by decide +kernel
theorem dX7_readTerm_21 : decode cX7_readTerm 21 = .ok (.ifCond .ne 15, 3) := by decide +kernel
theorem dX7_readTerm_24 : decode cX7_readTerm 24 = .ok (.aload_n 0, 1) := by decide +kernel
theorem dX7_readTerm_25 : decode cX7_readTerm 25 = .ok (.getfield 28, 3) := by decide +kernel
theorem dX7_readTerm_28 : decode cX7_readTerm 28 = .ok (.bipush 47, 2) := by decide +kernel
theorem dX7_readTerm_30 : decode cX7_readTerm 30 = .ok (.invokevirtual 127, 3) := by decide +kernel
theorem dX7_readTerm_33 : decode cX7_readTerm 33 = .ok (.ifCond .eq 67, 3) := by decide +kernel
theorem dX7_readTerm_36 : decode cX7_readTerm 36 = .ok (.iload_n 3, 1) := by decide +kernel
theorem dX7_readTerm_37 : decode cX7_readTerm 37 = .ok (.sipush 600, 3) := by decide +kernel
theorem dX7_readTerm_40 : decode cX7_readTerm 40 = .ok (.if_icmp .ge 60, 3) := by decide +kernel
theorem dX7_readTerm_43 : decode cX7_readTerm 43 = .ok (.aload_n 0, 1) := by decide +kernel
theorem dX7_readTerm_44 : decode cX7_readTerm 44 = .ok (.getfield 28, 3) := by decide +kernel
theorem dX7_readTerm_47 : decode cX7_readTerm 47 = .ok (.bipush 42, 2) := by decide +kernel
theorem dX7_readTerm_49 : decode cX7_readTerm 49 = .ok (.invokevirtual 127, 3) := by decide +kernel
theorem dX7_readTerm_52 : decode cX7_readTerm 52 = .ok (.ifCond .eq 8, 3) := by decide +kernel
theorem dX7_readTerm_55 : decode cX7_readTerm 55 = .ok (.bipush (-3), 2) := by decide +kernel
theorem dX7_readTerm_57 : decode cX7_readTerm 57 = .ok (.goto 5, 3) := by decide +kernel
theorem dX7_readTerm_60 : decode cX7_readTerm 60 = .ok (.bipush (-4), 2) := by decide +kernel
theorem dX7_readTerm_62 : decode cX7_readTerm 62 = .ok (.istore 4, 2) := by decide +kernel
theorem dX7_readTerm_64 : decode cX7_readTerm 64 = .ok (.aload_n 0, 1) := by decide +kernel
theorem dX7_readTerm_65 : decode cX7_readTerm 65 = .ok (.getfield 28, 3) := by decide +kernel
theorem dX7_readTerm_68 : decode cX7_readTerm 68 = .ok (.invokevirtual 96, 3) := by decide +kernel
theorem dX7_readTerm_71 : decode cX7_readTerm 71 = .ok (.aload_n 0, 1) := by decide +kernel
theorem dX7_readTerm_72 : decode cX7_readTerm 72 = .ok (.iload_n 1, 1) := by decide +kernel
theorem dX7_readTerm_73 : decode cX7_readTerm 73 = .ok (.invokevirtual 162, 3) := by decide +kernel
theorem dX7_readTerm_76 : decode cX7_readTerm 76 = .ok (.ifCond .eq 16, 3) := by decide +kernel
theorem dX7_readTerm_79 : decode cX7_readTerm 79 = .ok (.aload_n 0, 1) := by decide +kernel
theorem dX7_readTerm_80 : decode cX7_readTerm 80 = .ok (.iload 4, 2) := by decide +kernel
theorem dX7_readTerm_82 : decode cX7_readTerm 82 = .ok (.invokevirtual 159, 3) := by decide +kernel
theorem dX7_readTerm_85 : decode cX7_readTerm 85 = .ok (.ifCond .eq 7, 3) := by decide +kernel
theorem dX7_readTerm_88 : decode cX7_readTerm 88 = .ok (.iconst 1, 1) := by decide +kernel
theorem dX7_readTerm_89 : decode cX7_readTerm 89 = .ok (.goto 4, 3) := by decide +kernel
theorem dX7_readTerm_92 : decode cX7_readTerm 92 = .ok (.iconst 0, 1) := by decide +kernel
theorem dX7_readTerm_93 : decode cX7_readTerm 93 = .ok (.istore_n 2, 1) := by decide +kernel
theorem dX7_readTerm_94 : decode cX7_readTerm 94 = .ok (.iinc 3 1, 3) := by decide +kernel
theorem dX7_readTerm_97 : decode cX7_readTerm 97 = .ok (.goto (-89), 3) := by decide +kernel
theorem dX7_readTerm_100 : decode cX7_readTerm 100 = .ok (.iload_n 2, 1) := by decide +kernel
theorem dX7_readTerm_101 : decode cX7_readTerm 101 = .ok (.ireturn, 1) := by decide +kernel
set_option maxRecDepth 20000 in
theorem ggX7_readFactor_X9_isSign : GoodIn wsX7_readFactor wsX9_isSign := goodIn_r _ [7, 8, 9, 124, 125, 126, 127, 128, 129] (by decide +kernel) (by decide +kernel)
set_option maxRecDepth 20000 in
theorem gX7_readFactor_X9_isSign : GoodIn wsX7_readFactor (wsV RX7 127 RX9 yX9_isSign wsX9_isSign) := goodIn_app (goodIn_of _ (by decide +kernel)) ggX7_readFactor_X9_isSign
set_option maxRecDepth 20000 in
theorem ggX7_readFactor_X7_fail : GoodIn wsX7_readFactor wsX7_fail := goodIn_r _ [14, 15, 1, 16, 17, 114, 115, 116, 117, 118, 119, 120, 121, 122, 123, 124, 125, 126, 127, 128, 129] (by decide +kernel) (by decide +kernel)
set_option maxRecDepth 20000 in
theorem gX7_readFactor_X7_fail : GoodIn wsX7_readFactor (wsV RX7 92 RX7 yX7_fail wsX7_fail) := goodIn_app (goodIn_of _ (by decide +kernel)) ggX7_readFactor_X7_fail
set_option maxRecDepth 20000 in
theorem ggX7_readFactor_X9_advance : GoodIn wsX7_readFactor wsX9_advance := goodIn_r _ [21, 22, 23, 24, 25, 9, 8, 26, 27, 28, 29, 30, 124, 125, 126, 127, 128, 129] (by decide +kernel) (by decide +kernel)
set_option maxRecDepth 20000 in
theorem gX7_readFactor_X9_advance : GoodIn wsX7_readFactor (wsV RX7 96 RX9 yX9_advance wsX9_advance) := goodIn_app (goodIn_of _ (by decide +kernel)) ggX7_readFactor_X9_advance
set_option maxRecDepth 20000 in
theorem ggX7_readFactor_X7_readSum : GoodIn wsX7_readFactor wsX7_readSum := goodIn_r _ [106, 1, 107, 108, 109, 13, 3, 4, 5, 6, 7, 8, 9, 18, 19, 20, 21, 22, 23, 24, 25, 26, 27, 28, 29, 30, 43, 44, 45, 46, 47, 48, 0, 2, 10, 11, 12, 14, 15, 16, 17, 31, 32, 33, 34, 35, 36, 37, 38, 39, 40, 41, 42, 49, 50, 51, 52, 53, 54, 55, 56, 57, 58, 59, 60, 61, 62, 63, 64, 65, 66, 67, 68, 69, 70, 71, 72, 73, 74, 75, 76, 77, 78, 79, 80, 81, 82, 83, 84, 85, 86, 87, 88, 89, 90, 91, 92, 93, 94, 95, 96, 97, 98, 99, 100, 101, 102, 103, 104, 105, 110, 111, 112, 113, 114, 115, 116, 117, 118, 119, 120, 121, 122, 123, 124, 125, 126, 127, 128, 129] (by decide +kernel) (by decide +kernel)
set_option maxRecDepth 20000 in
theorem gX7_readFactor_X7_readSum : GoodIn wsX7_readFactor (wsV RX7 124 RX7 yX7_readSum wsX7_readSum) := goodIn_app (goodIn_of _ (by decide +kernel)) ggX7_readFactor_X7_readSum
set_option maxRecDepth 20000 in
theorem ggX7_readFactor_X7_takeSign : GoodIn wsX7_readFactor wsX7_takeSign := goodIn_r _ [37, 1, 3, 4, 5, 6, 7, 8, 9, 10, 11, 12, 13, 14, 15, 16, 17, 18, 19, 20, 21, 22, 23, 24, 25, 26, 27, 28, 29, 30, 114, 115, 116, 117, 118, 119, 120, 121, 122, 123, 124, 125, 126, 127, 128, 129] (by decide +kernel) (by decide +kernel)
set_option maxRecDepth 20000 in
theorem gX7_readFactor_X7_takeSign : GoodIn wsX7_readFactor (wsV RX7 103 RX7 yX7_takeSign wsX7_takeSign) := goodIn_app (goodIn_of _ (by decide +kernel)) ggX7_readFactor_X7_takeSign
set_option maxRecDepth 20000 in
theorem ggX7_readFactor_X7_takeNumber : GoodIn wsX7_readFactor wsX7_takeNumber := goodIn_r _ [41, 1, 2, 42, 10, 11, 12, 13, 14, 15, 16, 17, 18, 19, 20, 6, 21, 22, 23, 24, 25, 9, 8, 26, 27, 28, 29, 30, 114, 115, 116, 117, 118, 119, 120, 121, 122, 123, 124, 125, 126, 127, 128, 129] (by decide +kernel) (by decide +kernel)
set_option maxRecDepth 20000 in
theorem gX7_readFactor_X7_takeNumber : GoodIn wsX7_readFactor (wsV RX7 99 RX7 yX7_takeNumber wsX7_takeNumber) := goodIn_app (goodIn_of _ (by decide +kernel)) ggX7_readFactor_X7_takeNumber
set_option maxRecDepth 20000 in
theorem ggX7_readFactor_X7_put : GoodIn wsX7_readFactor wsX7_put := goodIn_r _ [46, 47, 48, 114, 115, 116, 117, 118, 119, 120, 121, 122, 123] (by decide +kernel) (by decide +kernel)
set_option maxRecDepth 20000 in
theorem gX7_readFactor_X7_put : GoodIn wsX7_readFactor (wsV RX7 159 RX7 yX7_put wsX7_put) := goodIn_app (goodIn_of _ (by decide +kernel)) ggX7_readFactor_X7_put
set_option maxRecDepth 20000 in
theorem ggX7_readFactor_X7_readName : GoodIn wsX7_readFactor wsX7_readName := goodIn_r _ [52, 1, 53, 54, 55, 6, 56, 8, 22, 25, 24, 57, 58, 59, 60, 61, 62, 63, 64, 65, 66, 67, 68, 69, 70, 71, 72, 73, 74, 75, 76, 77, 78, 79, 80, 81, 82, 83, 84, 85, 86, 87, 88, 89, 90, 91, 92, 93, 94, 95, 96, 97, 98, 99, 100, 101, 102, 103, 104, 105, 10, 11, 12, 13, 14, 15, 16, 17, 18, 19, 20, 21, 23, 9, 26, 27, 28, 29, 30, 43, 44, 45, 46, 47, 48, 114, 115, 116, 117, 118, 119, 120, 121, 122, 123, 124, 125, 126, 127, 128, 129] (by decide +kernel) (by decide +kernel)
set_option maxRecDepth 20000 in
theorem gX7_readFactor_X7_readName : GoodIn wsX7_readFactor (wsV RX7 165 RX7 yX7_readName wsX7_readName) := goodIn_app (goodIn_of _ (by decide +kernel)) ggX7_readFactor_X7_readName
theorem dX7_readFactor_0 : decode cX7_readFactor 0 = .ok (.aload_n 0, 1) := by decide +kernel
theorem dX7_readFactor_1 : decode cX7_readFactor 1 = .ok (.getfield 28, 3) := by decide +kernel
theorem dX7_readFactor_4 : decode cX7_readFactor 4 = .ok (.bipush 40, 2) := by decide +kernel
theorem dX7_readFactor_6 : decode cX7_readFactor 6 = .ok (.invokevirtual 127, 3) := by decide +kernel
theorem dX7_readFactor_9 : decode cX7_readFactor 9 = .ok (.ifCond .eq 47, 3) := by decide +kernel
theorem dX7_readFactor_12 : decode cX7_readFactor 12 = .ok (.iload_n 1, 1) := by decide +kernel
theorem dX7_readFactor_13 : decode cX7_readFactor 13 = .ok (.iconst 4, 1) := by decide +kernel
theorem dX7_readFactor_14 : decode cX7_readFactor 14 = .ok (.if_icmp .lt 10, 3) := by decide +kernel
theorem dX7_readFactor_17 : decode cX7_readFactor 17 = .ok (.aload_n 0, 1) := by decide +kernel
theorem dX7_readFactor_18 : decode cX7_readFactor 18 = .ok (.bipush (-5), 2) := by decide +kernel
theorem dX7_readFactor_20 : decode cX7_readFactor 20 = .ok (.invokevirtual 92, 3) := by decide +kernel
theorem dX7_readFactor_23 : decode cX7_readFactor 23 = .ok (.ireturn, 1) := by decide +kernel
theorem dX7_readFactor_24 : decode cX7_readFactor 24 = .ok (.aload_n 0, 1) := by decide +kernel
theorem dX7_readFactor_25 : decode cX7_readFactor 25 = .ok (.getfield 28, 3) := by decide +kernel
theorem dX7_readFactor_28 : decode cX7_readFactor 28 = .ok (.invokevirtual 96, 3) := by decide +kernel
theorem dX7_readFactor_31 : decode cX7_readFactor 31 = .ok (.aload_n 0, 1) := by decide +kernel
theorem dX7_readFactor_32 : decode cX7_readFactor 32 = .ok (.iload_n 1, 1) := by decide +kernel
theorem dX7_readFactor_33 : decode cX7_readFactor 33 = .ok (.iconst 1, 1) := by decide +kernel
theorem dX7_readFactor_34 : decode cX7_readFactor 34 = .ok (.iadd, 1) := by decide +kernel
theorem dX7_readFactor_35 : decode cX7_readFactor 35 = .ok (.invokevirtual 124, 3) := by decide +kernel
theorem dX7_readFactor_38 : decode cX7_readFactor 38 = .ok (.ifCond .eq 16, 3) := by decide +kernel
theorem dX7_readFactor_41 : decode cX7_readFactor 41 = .ok (.aload_n 0, 1) := by decide +kernel
theorem dX7_readFactor_42 : decode cX7_readFactor 42 = .ok (.bipush 41, 2) := by decide +kernel
theorem dX7_readFactor_44 : decode cX7_readFactor 44 = .ok (.invokevirtual 103, 3) := by decide +kernel
theorem dX7_readFactor_47 : decode cX7_readFactor 47 = .ok (.ifCond .eq 7, 3) := by decide +kernel
theorem dX7_readFactor_50 : decode cX7_readFactor 50 = .ok (.iconst 1, 1) := by decide +kernel
theorem dX7_readFactor_51 : decode cX7_readFactor 51 = .ok (.goto 4, 3) := by decide +kernel
theorem dX7_readFactor_54 : decode cX7_readFactor 54 = .ok (.iconst 0, 1) := by decide +kernel
theorem dX7_readFactor_55 : decode cX7_readFactor 55 = .ok (.ireturn, 1) := by decide +kernel
theorem dX7_readFactor_56 : decode cX7_readFactor 56 = .ok (.aload_n 0, 1) := by decide +kernel
theorem dX7_readFactor_57 : decode cX7_readFactor 57 = .ok (.getfield 28, 3) := by decide +kernel
theorem dX7_readFactor_60 : decode cX7_readFactor 60 = .ok (.getfield 65, 3) := by decide +kernel
theorem dX7_readFactor_63 : decode cX7_readFactor 63 = .ok (.iconst 1, 1) := by decide +kernel
theorem dX7_readFactor_64 : decode cX7_readFactor 64 = .ok (.if_icmp .ne 31, 3) := by decide +kernel
theorem dX7_readFactor_67 : decode cX7_readFactor 67 = .ok (.aload_n 0, 1) := by decide +kernel
theorem dX7_readFactor_68 : decode cX7_readFactor 68 = .ok (.iconst 0, 1) := by decide +kernel
theorem dX7_readFactor_69 : decode cX7_readFactor 69 = .ok (.sipush 9999, 3) := by decide +kernel
theorem dX7_readFactor_72 : decode cX7_readFactor 72 = .ok (.invokevirtual 99, 3) := by decide +kernel
theorem dX7_readFactor_75 : decode cX7_readFactor 75 = .ok (.istore_n 2, 1) := by decide +kernel
theorem dX7_readFactor_76 : decode cX7_readFactor 76 = .ok (.iload_n 2, 1) := by decide +kernel
theorem dX7_readFactor_77 : decode cX7_readFactor 77 = .ok (.iconst (-1), 1) := by decide +kernel
theorem dX7_readFactor_78 : decode cX7_readFactor 78 = .ok (.if_icmp .eq 15, 3) := by decide +kernel
theorem dX7_readFactor_81 : decode cX7_readFactor 81 = .ok (.aload_n 0, 1) := by decide +kernel
theorem dX7_readFactor_82 : decode cX7_readFactor 82 = .ok (.iload_n 2, 1) := by decide +kernel
theorem dX7_readFactor_83 : decode cX7_readFactor 83 = .ok (.invokevirtual 159, 3) := by decide +kernel
theorem dX7_readFactor_86 : decode cX7_readFactor 86 = .ok (.ifCond .eq 7, 3) := by decide +kernel
theorem dX7_readFactor_89 : decode cX7_readFactor 89 = .ok (.iconst 1, 1) := by decide +kernel
theorem dX7_readFactor_90 : decode cX7_readFactor 90 = .ok (.goto 4, 3) := by decide +kernel
theorem dX7_readFactor_93 : decode cX7_readFactor 93 = .ok (.iconst 0, 1) := by decide +kernel
theorem dX7_readFactor_94 : decode cX7_readFactor 94 = .ok (.ireturn, 1) := by decide +kernel
theorem dX7_readFactor_95 : decode cX7_readFactor 95 = .ok (.aload_n 0, 1) := by decide +kernel
theorem dX7_readFactor_96 : decode cX7_readFactor 96 = .ok (.invokevirtual 165, 3) := by decide +kernel
theorem dX7_readFactor_99 : decode cX7_readFactor 99 = .ok (.ireturn, 1) := by decide +kernel
set_option maxRecDepth 20000 in
theorem ggX7_readName_X9_isWord : GoodIn wsX7_readName wsX9_isWord := goodIn_r _ [6, 7, 8, 9, 10, 11, 12, 13, 14, 15, 16, 17, 18, 19, 20, 21, 22, 23, 24, 25, 26, 27, 28, 29, 30, 31, 32, 33, 34, 35, 36, 37, 38, 39, 40, 41, 42, 43, 44, 45, 46, 47, 48, 49, 50, 51, 52, 53, 54, 55, 56, 57, 58, 59, 95, 96, 97, 98, 99, 100] (by decide +kernel) (by decide +kernel)
set_option maxRecDepth 20000 in
theorem gX7_readName_X9_isWord : GoodIn wsX7_readName (wsV RX7 88 RX9 yX9_isWord wsX9_isWord) := goodIn_app (goodIn_of _ (by decide +kernel)) ggX7_readName_X9_isWord
set_option maxRecDepth 20000 in
theorem ggX7_readName_X7_fail : GoodIn wsX7_readName wsX7_fail := goodIn_r _ [64, 65, 1, 66, 67, 85, 86, 87, 88, 89, 90, 91, 92, 93, 94, 95, 96, 97, 98, 99, 100] (by decide +kernel) (by decide +kernel)
set_option maxRecDepth 20000 in
theorem gX7_readName_X7_fail : GoodIn wsX7_readName (wsV RX7 92 RX7 yX7_fail wsX7_fail) := goodIn_app (goodIn_of _ (by decide +kernel)) ggX7_readName_X7_fail
set_option maxRecDepth 20000 in
theorem ggX7_readName_X9_advance : GoodIn wsX7_readName wsX9_advance := goodIn_r _ [71, 8, 72, 10, 9, 73, 7, 74, 75, 76, 77, 78, 95, 96, 97, 98, 99, 100] (by decide +kernel) (by decide +kernel)
set_option maxRecDepth 20000 in
theorem gX7_readName_X9_advance : GoodIn wsX7_readName (wsV RX7 96 RX9 yX9_advance wsX9_advance) := goodIn_app (goodIn_of _ (by decide +kernel)) ggX7_readName_X9_advance
set_option maxRecDepth 20000 in
theorem ggX7_readName_X7_put : GoodIn wsX7_readName wsX7_put := goodIn_r _ [82, 83, 84, 85, 86, 87, 88, 89, 90, 91, 92, 93, 94] (by decide +kernel) (by decide +kernel)
set_option maxRecDepth 20000 in
theorem gX7_readName_X7_put : GoodIn wsX7_readName (wsV RX7 159 RX7 yX7_put wsX7_put) := goodIn_app (goodIn_of _ (by decide +kernel)) ggX7_readName_X7_put
theorem dX7_readName_0 : decode cX7_readName 0 = .ok (.aload_n 0, 1) := by decide +kernel
theorem dX7_readName_1 : decode cX7_readName 1 = .ok (.getfield 28, 3) := by decide +kernel
theorem dX7_readName_4 : decode cX7_readName 4 = .ok (.ldc 168, 2) := by decide +kernel
theorem dX7_readName_6 : decode cX7_readName 6 = .ok (.invokevirtual 88, 3) := by decide +kernel
theorem dX7_readName_9 : decode cX7_readName 9 = .ok (.ifCond .eq 9, 3) := by decide +kernel
theorem dX7_readName_12 : decode cX7_readName 12 = .ok (.bipush (-5), 2) := by decide +kernel
theorem dX7_readName_14 : decode cX7_readName 14 = .ok (.istore_n 1, 1) := by decide +kernel
theorem dX7_readName_15 : decode cX7_readName 15 = .ok (.goto 46, 3) := by decide +kernel
theorem dX7_readName_18 : decode cX7_readName 18 = .ok (.aload_n 0, 1) := by decide +kernel
theorem dX7_readName_19 : decode cX7_readName 19 = .ok (.getfield 28, 3) := by decide +kernel
theorem dX7_readName_22 : decode cX7_readName 22 = .ok (.ldc 170, 2) := by decide +kernel
theorem dX7_readName_24 : decode cX7_readName 24 = .ok (.invokevirtual 88, 3) := by decide +kernel
theorem dX7_readName_27 : decode cX7_readName 27 = .ok (.ifCond .eq 9, 3) := by decide +kernel
theorem dX7_readName_30 : decode cX7_readName 30 = .ok (.bipush (-6), 2) := by decide +kernel
theorem dX7_readName_32 : decode cX7_readName 32 = .ok (.istore_n 1, 1) := by decide +kernel
theorem dX7_readName_33 : decode cX7_readName 33 = .ok (.goto 28, 3) := by decide +kernel
theorem dX7_readName_36 : decode cX7_readName 36 = .ok (.aload_n 0, 1) := by decide +kernel
theorem dX7_readName_37 : decode cX7_readName 37 = .ok (.getfield 28, 3) := by decide +kernel
theorem dX7_readName_40 : decode cX7_readName 40 = .ok (.ldc 117, 2) := by decide +kernel
theorem dX7_readName_42 : decode cX7_readName 42 = .ok (.invokevirtual 88, 3) := by decide +kernel
theorem dX7_readName_45 : decode cX7_readName 45 = .ok (.ifCond .eq 9, 3) := by decide +kernel
theorem dX7_readName_48 : decode cX7_readName 48 = .ok (.bipush (-7), 2) := by decide +kernel
theorem dX7_readName_50 : decode cX7_readName 50 = .ok (.istore_n 1, 1) := by decide +kernel
theorem dX7_readName_51 : decode cX7_readName 51 = .ok (.goto 10, 3) := by decide +kernel
theorem dX7_readName_54 : decode cX7_readName 54 = .ok (.aload_n 0, 1) := by decide +kernel
theorem dX7_readName_55 : decode cX7_readName 55 = .ok (.bipush (-2), 2) := by decide +kernel
theorem dX7_readName_57 : decode cX7_readName 57 = .ok (.invokevirtual 92, 3) := by decide +kernel
theorem dX7_readName_60 : decode cX7_readName 60 = .ok (.ireturn, 1) := by decide +kernel
theorem dX7_readName_61 : decode cX7_readName 61 = .ok (.aload_n 0, 1) := by decide +kernel
theorem dX7_readName_62 : decode cX7_readName 62 = .ok (.getfield 28, 3) := by decide +kernel
theorem dX7_readName_65 : decode cX7_readName 65 = .ok (.invokevirtual 96, 3) := by decide +kernel
theorem dX7_readName_68 : decode cX7_readName 68 = .ok (.aload_n 0, 1) := by decide +kernel
theorem dX7_readName_69 : decode cX7_readName 69 = .ok (.iload_n 1, 1) := by decide +kernel
theorem dX7_readName_70 : decode cX7_readName 70 = .ok (.invokevirtual 159, 3) := by decide +kernel
theorem dX7_readName_73 : decode cX7_readName 73 = .ok (.ireturn, 1) := by decide +kernel
theorem dX7_put_0 : decode cX7_put 0 = .ok (.aload_n 0, 1) := by decide +kernel
theorem dX7_put_1 : decode cX7_put 1 = .ok (.getfield 51, 3) := by decide +kernel
theorem dX7_put_4 : decode cX7_put 4 = .ok (.aload_n 0, 1) := by decide +kernel
theorem dX7_put_5 : decode cX7_put 5 = .ok (.getfield 47, 3) := by decide +kernel
theorem dX7_put_8 : decode cX7_put 8 = .ok (.arraylength, 1) := by decide +kernel
theorem dX7_put_9 : decode cX7_put 9 = .ok (.if_icmp .lt 5, 3) := by decide +kernel
theorem dX7_put_12 : decode cX7_put 12 = .ok (.iconst 0, 1) := by decide +kernel
theorem dX7_put_13 : decode cX7_put 13 = .ok (.ireturn, 1) := by decide +kernel
theorem dX7_put_14 : decode cX7_put 14 = .ok (.aload_n 0, 1) := by decide +kernel
theorem dX7_put_15 : decode cX7_put 15 = .ok (.getfield 47, 3) := by decide +kernel
theorem dX7_put_18 : decode cX7_put 18 = .ok (.aload_n 0, 1) := by decide +kernel
theorem dX7_put_19 : decode cX7_put 19 = .ok (.getfield 51, 3) := by decide +kernel
theorem dX7_put_22 : decode cX7_put 22 = .ok (.iload_n 1, 1) := by decide +kernel
theorem dX7_put_23 : decode cX7_put 23 = .ok (.iastore, 1) := by decide +kernel
theorem dX7_put_24 : decode cX7_put 24 = .ok (.aload_n 0, 1) := by decide +kernel
theorem dX7_put_25 : decode cX7_put 25 = .ok (.dup, 1) := by decide +kernel
theorem dX7_put_26 : decode cX7_put 26 = .ok (.getfield 51, 3) := by decide +kernel
theorem dX7_put_29 : decode cX7_put 29 = .ok (.iconst 1, 1) := by decide +kernel
theorem dX7_put_30 : decode cX7_put 30 = .ok (.iadd, 1) := by decide +kernel
theorem dX7_put_31 : decode cX7_put 31 = .ok (.putfield 51, 3) := by decide +kernel
theorem dX7_put_34 : decode cX7_put 34 = .ok (.iconst 1, 1) := by decide +kernel
theorem dX7_put_35 : decode cX7_put 35 = .ok (.ireturn, 1) := by decide +kernel
set_option maxRecDepth 20000 in
theorem ggX7_takeNumber_X7_fail : GoodIn wsX7_takeNumber wsX7_fail := goodIn_r _ [8, 9, 1, 10, 11, 28, 29, 30, 31, 32, 33, 34, 35, 36, 37, 38, 39, 40, 41, 42, 43] (by decide +kernel) (by decide +kernel)
set_option maxRecDepth 20000 in
theorem gX7_takeNumber_X7_fail : GoodIn wsX7_takeNumber (wsV RX7 92 RX7 yX7_fail wsX7_fail) := goodIn_app (goodIn_of _ (by decide +kernel)) ggX7_takeNumber_X7_fail
set_option maxRecDepth 20000 in
theorem ggX7_takeNumber_X9_advance : GoodIn wsX7_takeNumber wsX9_advance := goodIn_r _ [16, 17, 18, 19, 20, 21, 22, 23, 24, 25, 26, 27, 38, 39, 40, 41, 42, 43] (by decide +kernel) (by decide +kernel)
set_option maxRecDepth 20000 in
theorem gX7_takeNumber_X9_advance : GoodIn wsX7_takeNumber (wsV RX7 96 RX9 yX9_advance wsX9_advance) := goodIn_app (goodIn_of _ (by decide +kernel)) ggX7_takeNumber_X9_advance
theorem dX7_takeNumber_0 : decode cX7_takeNumber 0 = .ok (.aload_n 0, 1) := by decide +kernel
theorem dX7_takeNumber_1 : decode cX7_takeNumber 1 = .ok (.getfield 28, 3) := by decide +kernel
theorem dX7_takeNumber_4 : decode cX7_takeNumber 4 = .ok (.getfield 65, 3) := by decide +kernel
theorem dX7_takeNumber_7 : decode cX7_takeNumber 7 = .ok (.iconst 1, 1) := by decide +kernel
theorem dX7_takeNumber_8 : decode cX7_takeNumber 8 = .ok (.if_icmp .eq 12, 3) := by decide +kernel
theorem dX7_takeNumber_11 : decode cX7_takeNumber 11 = .ok (.aload_n 0, 1) := by decide +kernel
theorem dX7_takeNumber_12 : decode cX7_takeNumber 12 = .ok (.bipush (-2), 2) := by decide +kernel
theorem dX7_takeNumber_14 : decode cX7_takeNumber 14 = .ok (.invokevirtual 92, 3) := by decide +kernel
theorem dX7_takeNumber_17 : decode cX7_takeNumber 17 = .ok (.pop, 1) := by decide +kernel
theorem dX7_takeNumber_18 : decode cX7_takeNumber 18 = .ok (.iconst (-1), 1) := by decide +kernel
theorem dX7_takeNumber_19 : decode cX7_takeNumber 19 = .ok (.ireturn, 1) := by decide +kernel
theorem dX7_takeNumber_20 : decode cX7_takeNumber 20 = .ok (.aload_n 0, 1) := by decide +kernel
theorem dX7_takeNumber_21 : decode cX7_takeNumber 21 = .ok (.getfield 28, 3) := by decide +kernel
theorem dX7_takeNumber_24 : decode cX7_takeNumber 24 = .ok (.getfield 172, 3) := by decide +kernel
theorem dX7_takeNumber_27 : decode cX7_takeNumber 27 = .ok (.istore_n 3, 1) := by decide +kernel
theorem dX7_takeNumber_28 : decode cX7_takeNumber 28 = .ok (.iload_n 3, 1) := by decide +kernel
theorem dX7_takeNumber_29 : decode cX7_takeNumber 29 = .ok (.iload_n 1, 1) := by decide +kernel
theorem dX7_takeNumber_30 : decode cX7_takeNumber 30 = .ok (.if_icmp .lt 8, 3) := by decide +kernel
theorem dX7_takeNumber_33 : decode cX7_takeNumber 33 = .ok (.iload_n 3, 1) := by decide +kernel
theorem dX7_takeNumber_34 : decode cX7_takeNumber 34 = .ok (.iload_n 2, 1) := by decide +kernel
theorem dX7_takeNumber_35 : decode cX7_takeNumber 35 = .ok (.if_icmp .le 12, 3) := by decide +kernel
theorem dX7_takeNumber_38 : decode cX7_takeNumber 38 = .ok (.aload_n 0, 1) := by decide +kernel
theorem dX7_takeNumber_39 : decode cX7_takeNumber 39 = .ok (.bipush (-3), 2) := by decide +kernel
theorem dX7_takeNumber_41 : decode cX7_takeNumber 41 = .ok (.invokevirtual 92, 3) := by decide +kernel
theorem dX7_takeNumber_44 : decode cX7_takeNumber 44 = .ok (.pop, 1) := by decide +kernel
theorem dX7_takeNumber_45 : decode cX7_takeNumber 45 = .ok (.iconst (-1), 1) := by decide +kernel
theorem dX7_takeNumber_46 : decode cX7_takeNumber 46 = .ok (.ireturn, 1) := by decide +kernel
theorem dX7_takeNumber_47 : decode cX7_takeNumber 47 = .ok (.aload_n 0, 1) := by decide +kernel
theorem dX7_takeNumber_48 : decode cX7_takeNumber 48 = .ok (.getfield 28, 3) := by decide +kernel
theorem dX7_takeNumber_51 : decode cX7_takeNumber 51 = .ok (.invokevirtual 96, 3) := by decide +kernel
theorem dX7_takeNumber_54 : decode cX7_takeNumber 54 = .ok (.iload_n 3, 1) := by decide +kernel
theorem dX7_takeNumber_55 : decode cX7_takeNumber 55 = .ok (.ireturn, 1) := by decide +kernel
set_option maxRecDepth 20000 in
theorem ggX7_takeSign_X9_isSign : GoodIn wsX7_takeSign wsX9_isSign := goodIn_r _ [6, 7, 8, 40, 41, 42, 43, 44, 45] (by decide +kernel) (by decide +kernel)
set_option maxRecDepth 20000 in
theorem gX7_takeSign_X9_isSign : GoodIn wsX7_takeSign (wsV RX7 127 RX9 yX9_isSign wsX9_isSign) := goodIn_app (goodIn_of _ (by decide +kernel)) ggX7_takeSign_X9_isSign
set_option maxRecDepth 20000 in
theorem ggX7_takeSign_X7_fail : GoodIn wsX7_takeSign wsX7_fail := goodIn_r _ [13, 14, 1, 15, 16, 30, 31, 32, 33, 34, 35, 36, 37, 38, 39, 40, 41, 42, 43, 44, 45] (by decide +kernel) (by decide +kernel)
set_option maxRecDepth 20000 in
theorem gX7_takeSign_X7_fail : GoodIn wsX7_takeSign (wsV RX7 92 RX7 yX7_fail wsX7_fail) := goodIn_app (goodIn_of _ (by decide +kernel)) ggX7_takeSign_X7_fail
set_option maxRecDepth 20000 in
theorem ggX7_takeSign_X9_advance : GoodIn wsX7_takeSign wsX9_advance := goodIn_r _ [20, 21, 22, 23, 24, 8, 7, 25, 26, 27, 28, 29, 40, 41, 42, 43, 44, 45] (by decide +kernel) (by decide +kernel)
set_option maxRecDepth 20000 in
theorem gX7_takeSign_X9_advance : GoodIn wsX7_takeSign (wsV RX7 96 RX9 yX9_advance wsX9_advance) := goodIn_app (goodIn_of _ (by decide +kernel)) ggX7_takeSign_X9_advance
theorem dX7_takeSign_0 : decode cX7_takeSign 0 = .ok (.aload_n 0, 1) := by decide +kernel
theorem dX7_takeSign_1 : decode cX7_takeSign 1 = .ok (.getfield 28, 3) := by decide +kernel
theorem dX7_takeSign_4 : decode cX7_takeSign 4 = .ok (.iload_n 1, 1) := by decide +kernel
theorem dX7_takeSign_5 : decode cX7_takeSign 5 = .ok (.invokevirtual 127, 3) := by decide +kernel
theorem dX7_takeSign_8 : decode cX7_takeSign 8 = .ok (.ifCond .ne 10, 3) := by decide +kernel
theorem dX7_takeSign_11 : decode cX7_takeSign 11 = .ok (.aload_n 0, 1) := by decide +kernel
theorem dX7_takeSign_12 : decode cX7_takeSign 12 = .ok (.bipush (-2), 2) := by decide +kernel
theorem dX7_takeSign_14 : decode cX7_takeSign 14 = .ok (.invokevirtual 92, 3) := by decide +kernel
theorem dX7_takeSign_17 : decode cX7_takeSign 17 = .ok (.ireturn, 1) := by decide +kernel
theorem dX7_takeSign_18 : decode cX7_takeSign 18 = .ok (.aload_n 0, 1) := by decide +kernel
theorem dX7_takeSign_19 : decode cX7_takeSign 19 = .ok (.getfield 28, 3) := by decide +kernel
theorem dX7_takeSign_22 : decode cX7_takeSign 22 = .ok (.invokevirtual 96, 3) := by decide +kernel
theorem dX7_takeSign_25 : decode cX7_takeSign 25 = .ok (.iconst 1, 1) := by decide +kernel
theorem dX7_takeSign_26 : decode cX7_takeSign 26 = .ok (.ireturn, 1) := by decide +kernel
set_option maxRecDepth 20000 in
theorem ggX7_skipIf_X9_advance : GoodIn wsX7_skipIf wsX9_advance := goodIn_r _ [6, 7, 8, 9, 10, 11, 12, 13, 14, 15, 16, 17, 28, 29, 30, 31, 32, 33] (by decide +kernel) (by decide +kernel)
set_option maxRecDepth 20000 in
theorem gX7_skipIf_X9_advance : GoodIn wsX7_skipIf (wsV RX7 96 RX9 yX9_advance wsX9_advance) := goodIn_app (goodIn_of _ (by decide +kernel)) ggX7_skipIf_X9_advance
theorem dX7_skipIf_0 : decode cX7_skipIf 0 = .ok (.iload_n 1, 1) := by decide +kernel
theorem dX7_skipIf_1 : decode cX7_skipIf 1 = .ok (.ifCond .eq 10, 3) := by decide +kernel
theorem dX7_skipIf_4 : decode cX7_skipIf 4 = .ok (.aload_n 0, 1) := by decide +kernel
theorem dX7_skipIf_5 : decode cX7_skipIf 5 = .ok (.getfield 28, 3) := by decide +kernel
theorem dX7_skipIf_8 : decode cX7_skipIf 8 = .ok (.invokevirtual 96, 3) := by decide +kernel
theorem dX7_skipIf_11 : decode cX7_skipIf 11 = .ok (.iload_n 1, 1) := by decide +kernel
theorem dX7_skipIf_12 : decode cX7_skipIf 12 = .ok (.ireturn, 1) := by decide +kernel
theorem dX7_fail_0 : decode cX7_fail 0 = .ok (.aload_n 0, 1) := by decide +kernel
theorem dX7_fail_1 : decode cX7_fail 1 = .ok (.iload_n 1, 1) := by decide +kernel
theorem dX7_fail_2 : decode cX7_fail 2 = .ok (.putfield 9, 3) := by decide +kernel
theorem dX7_fail_5 : decode cX7_fail 5 = .ok (.aload_n 0, 1) := by decide +kernel
theorem dX7_fail_6 : decode cX7_fail 6 = .ok (.aload_n 0, 1) := by decide +kernel
theorem dX7_fail_7 : decode cX7_fail 7 = .ok (.getfield 28, 3) := by decide +kernel
theorem dX7_fail_10 : decode cX7_fail 10 = .ok (.getfield 175, 3) := by decide +kernel
theorem dX7_fail_13 : decode cX7_fail 13 = .ok (.putfield 15, 3) := by decide +kernel
theorem dX7_fail_16 : decode cX7_fail 16 = .ok (.iconst 0, 1) := by decide +kernel
theorem dX7_fail_17 : decode cX7_fail 17 = .ok (.ireturn, 1) := by decide +kernel
theorem dX8_init_0 : decode cX8_init 0 = .ok (.aload_n 0, 1) := by decide +kernel
theorem dX8_init_1 : decode cX8_init 1 = .ok (.invokespecial 3, 3) := by decide +kernel
theorem dX8_init_4 : decode cX8_init 4 = .ok (.aload_n 0, 1) := by decide +kernel
theorem dX8_init_5 : decode cX8_init 5 = .ok (.sipush 6400, 3) := by decide +kernel
theorem dX8_init_8 : decode cX8_init 8 = .ok (.newarray .long, 2) := by decide +kernel
theorem dX8_init_10 : decode cX8_init 10 = .ok (.putfield 11, 3) := by decide +kernel
theorem dX8_init_13 : decode cX8_init 13 = .ok (.aload_n 0, 1) := by decide +kernel
theorem dX8_init_14 : decode cX8_init 14 = .ok (.sipush 6400, 3) := by decide +kernel
theorem dX8_init_17 : decode cX8_init 17 = .ok (.newarray .int, 2) := by decide +kernel
theorem dX8_init_19 : decode cX8_init 19 = .ok (.putfield 15, 3) := by decide +kernel
theorem dX8_init_22 : decode cX8_init 22 = .ok (.aload_n 0, 1) := by decide +kernel
theorem dX8_init_23 : decode cX8_init 23 = .ok (.iconst 0, 1) := by decide +kernel
theorem dX8_init_24 : decode cX8_init 24 = .ok (.putfield 19, 3) := by decide +kernel
theorem dX8_init_27 : decode cX8_init 27 = .ok (.aload_n 0, 1) := by decide +kernel
theorem dX8_init_28 : decode cX8_init 28 = .ok (.iconst 5, 1) := by decide +kernel
theorem dX8_init_29 : decode cX8_init 29 = .ok (.newarray .int, 2) := by decide +kernel
theorem dX8_init_31 : decode cX8_init 31 = .ok (.putfield 23, 3) := by decide +kernel
theorem dX8_init_34 : decode cX8_init 34 = .ok (.aload_n 0, 1) := by decide +kernel
theorem dX8_init_35 : decode cX8_init 35 = .ok (.iconst 0, 1) := by decide +kernel
theorem dX8_init_36 : decode cX8_init 36 = .ok (.putfield 26, 3) := by decide +kernel
theorem dX8_init_39 : decode cX8_init 39 = .ok (.aload_n 0, 1) := by decide +kernel
theorem dX8_init_40 : decode cX8_init 40 = .ok (.sipush 656, 3) := by decide +kernel
theorem dX8_init_43 : decode cX8_init 43 = .ok (.newarray .int, 2) := by decide +kernel
theorem dX8_init_45 : decode cX8_init 45 = .ok (.putfield 29, 3) := by decide +kernel
theorem dX8_init_48 : decode cX8_init 48 = .ok (.aload_n 0, 1) := by decide +kernel
theorem dX8_init_49 : decode cX8_init 49 = .ok (.sipush 19200, 3) := by decide +kernel
theorem dX8_init_52 : decode cX8_init 52 = .ok (.newarray .long, 2) := by decide +kernel
theorem dX8_init_54 : decode cX8_init 54 = .ok (.putfield 32, 3) := by decide +kernel
theorem dX8_init_57 : decode cX8_init 57 = .ok (.aload_n 0, 1) := by decide +kernel
theorem dX8_init_58 : decode cX8_init 58 = .ok (.bipush 42, 2) := by decide +kernel
theorem dX8_init_60 : decode cX8_init 60 = .ok (.newarray .int, 2) := by decide +kernel
theorem dX8_init_62 : decode cX8_init 62 = .ok (.putfield 35, 3) := by decide +kernel
theorem dX8_init_65 : decode cX8_init 65 = .ok (.return_, 1) := by decide +kernel
set_option maxRecDepth 20000 in
theorem ggX8_prepare_J7_fill_53178 : GoodIn wsX8_prepare wsJ7_fill_53178 := goodIn_r _ [9] (by decide +kernel) (by decide +kernel)
set_option maxRecDepth 20000 in
theorem gX8_prepare_J7_fill_53178 : GoodIn wsX8_prepare (va_wsS RX8 38 yJ7_fill_53178 wsJ7_fill_53178) := goodIn_app (goodIn_of _ (by decide +kernel)) ggX8_prepare_J7_fill_53178
set_option maxRecDepth 20000 in
theorem ggX8_prepare_X4_addSolutions : GoodIn wsX8_prepare wsX4_addSolutions := goodIn_r _ [14, 15, 16, 17, 18, 13, 19, 20, 21, 22, 23, 24, 1, 25, 26, 4, 27, 28, 29, 30, 31, 32, 33, 34, 35, 36, 37, 38, 39, 40, 41, 42, 43, 94, 95, 96, 97, 98, 99, 82, 83, 84, 85, 86, 87, 88, 89] (by decide +kernel) (by decide +kernel)
set_option maxRecDepth 20000 in
theorem gX8_prepare_X4_addSolutions : GoodIn wsX8_prepare (wsV RX8 53 RX4 yX4_addSolutions wsX4_addSolutions) := goodIn_app (goodIn_of _ (by decide +kernel)) ggX8_prepare_X4_addSolutions
set_option maxRecDepth 20000 in
theorem ggX8_prepare_X8_fillWeights : GoodIn wsX8_prepare wsX8_fillWeights := goodIn_r _ [47, 5, 48, 49, 50, 51, 52, 53, 54, 55, 56, 57, 58, 59, 60, 61, 62, 63, 64, 65, 66, 67, 37, 68, 69, 70, 71, 72, 73, 74, 90, 91, 92, 93, 82, 83, 84, 85, 86, 87, 88, 89, 100, 101] (by decide +kernel) (by decide +kernel)
set_option maxRecDepth 20000 in
theorem gX8_prepare_X8_fillWeights : GoodIn wsX8_prepare (wsV RX8 59 RX8 yX8_fillWeights wsX8_fillWeights) := goodIn_app (goodIn_of _ (by decide +kernel)) ggX8_prepare_X8_fillWeights
set_option maxRecDepth 20000 in
theorem ggX8_prepare_X8_fillRests : GoodIn wsX8_prepare wsX8_fillRests := goodIn_r _ [78, 79, 1, 80, 25, 81, 82, 83, 84, 85, 86, 87, 88, 89] (by decide +kernel) (by decide +kernel)
set_option maxRecDepth 20000 in
theorem gX8_prepare_X8_fillRests : GoodIn wsX8_prepare (wsV RX8 63 RX8 yX8_fillRests wsX8_fillRests) := goodIn_app (goodIn_of _ (by decide +kernel)) ggX8_prepare_X8_fillRests
theorem dX8_prepare_0 : decode cX8_prepare 0 = .ok (.aload_n 0, 1) := by decide +kernel
theorem dX8_prepare_1 : decode cX8_prepare 1 = .ok (.iconst 0, 1) := by decide +kernel
theorem dX8_prepare_2 : decode cX8_prepare 2 = .ok (.putfield 19, 3) := by decide +kernel
theorem dX8_prepare_5 : decode cX8_prepare 5 = .ok (.aload_n 0, 1) := by decide +kernel
theorem dX8_prepare_6 : decode cX8_prepare 6 = .ok (.getfield 23, 3) := by decide +kernel
theorem dX8_prepare_9 : decode cX8_prepare 9 = .ok (.iconst 0, 1) := by decide +kernel
theorem dX8_prepare_10 : decode cX8_prepare 10 = .ok (.invokestatic 38, 3) := by decide +kernel
theorem dX8_prepare_13 : decode cX8_prepare 13 = .ok (.iconst 0, 1) := by decide +kernel
theorem dX8_prepare_14 : decode cX8_prepare 14 = .ok (.istore_n 2, 1) := by decide +kernel
theorem dX8_prepare_15 : decode cX8_prepare 15 = .ok (.iload_n 2, 1) := by decide +kernel
theorem dX8_prepare_16 : decode cX8_prepare 16 = .ok (.aload_n 1, 1) := by decide +kernel
theorem dX8_prepare_17 : decode cX8_prepare 17 = .ok (.getfield 44, 3) := by decide +kernel
theorem dX8_prepare_20 : decode cX8_prepare 20 = .ok (.arraylength, 1) := by decide +kernel
theorem dX8_prepare_21 : decode cX8_prepare 21 = .ok (.if_icmp .ge 60, 3) := by decide +kernel
theorem dX8_prepare_24 : decode cX8_prepare 24 = .ok (.iload_n 2, 1) := by decide +kernel
theorem dX8_prepare_25 : decode cX8_prepare 25 = .ok (.iconst 4, 1) := by decide +kernel
theorem dX8_prepare_26 : decode cX8_prepare 26 = .ok (.if_icmp .ge 55, 3) := by decide +kernel
theorem dX8_prepare_29 : decode cX8_prepare 29 = .ok (.aload_n 0, 1) := by decide +kernel
theorem dX8_prepare_30 : decode cX8_prepare 30 = .ok (.iload_n 2, 1) := by decide +kernel
theorem dX8_prepare_31 : decode cX8_prepare 31 = .ok (.putfield 26, 3) := by decide +kernel
theorem dX8_prepare_34 : decode cX8_prepare 34 = .ok (.aload_n 1, 1) := by decide +kernel
theorem dX8_prepare_35 : decode cX8_prepare 35 = .ok (.getfield 44, 3) := by decide +kernel
theorem dX8_prepare_38 : decode cX8_prepare 38 = .ok (.iload_n 2, 1) := by decide +kernel
theorem dX8_prepare_39 : decode cX8_prepare 39 = .ok (.aaload, 1) := by decide +kernel
theorem dX8_prepare_40 : decode cX8_prepare 40 = .ok (.ifnull 17, 3) := by decide +kernel
theorem dX8_prepare_43 : decode cX8_prepare 43 = .ok (.aload_n 1, 1) := by decide +kernel
theorem dX8_prepare_44 : decode cX8_prepare 44 = .ok (.getfield 44, 3) := by decide +kernel
theorem dX8_prepare_47 : decode cX8_prepare 47 = .ok (.iload_n 2, 1) := by decide +kernel
theorem dX8_prepare_48 : decode cX8_prepare 48 = .ok (.aaload, 1) := by decide +kernel
theorem dX8_prepare_49 : decode cX8_prepare 49 = .ok (.aload_n 1, 1) := by decide +kernel
theorem dX8_prepare_50 : decode cX8_prepare 50 = .ok (.getfield 50, 3) := by decide +kernel
theorem dX8_prepare_53 : decode cX8_prepare 53 = .ok (.aload_n 0, 1) := by decide +kernel
theorem dX8_prepare_54 : decode cX8_prepare 54 = .ok (.invokevirtual 53, 3) := by decide +kernel
theorem dX8_prepare_57 : decode cX8_prepare 57 = .ok (.aload_n 0, 1) := by decide +kernel
theorem dX8_prepare_58 : decode cX8_prepare 58 = .ok (.getfield 23, 3) := by decide +kernel
theorem dX8_prepare_61 : decode cX8_prepare 61 = .ok (.iload_n 2, 1) := by decide +kernel
theorem dX8_prepare_62 : decode cX8_prepare 62 = .ok (.iconst 1, 1) := by decide +kernel
theorem dX8_prepare_63 : decode cX8_prepare 63 = .ok (.iadd, 1) := by decide +kernel
theorem dX8_prepare_64 : decode cX8_prepare 64 = .ok (.aload_n 0, 1) := by decide +kernel
theorem dX8_prepare_65 : decode cX8_prepare 65 = .ok (.getfield 19, 3) := by decide +kernel
theorem dX8_prepare_68 : decode cX8_prepare 68 = .ok (.iastore, 1) := by decide +kernel
theorem dX8_prepare_69 : decode cX8_prepare 69 = .ok (.aload_n 0, 1) := by decide +kernel
theorem dX8_prepare_70 : decode cX8_prepare 70 = .ok (.aload_n 1, 1) := by decide +kernel
theorem dX8_prepare_71 : decode cX8_prepare 71 = .ok (.iload_n 2, 1) := by decide +kernel
theorem dX8_prepare_72 : decode cX8_prepare 72 = .ok (.invokevirtual 59, 3) := by decide +kernel
theorem dX8_prepare_75 : decode cX8_prepare 75 = .ok (.iinc 2 1, 3) := by decide +kernel
theorem dX8_prepare_78 : decode cX8_prepare 78 = .ok (.goto (-63), 3) := by decide +kernel
theorem dX8_prepare_81 : decode cX8_prepare 81 = .ok (.aload_n 0, 1) := by decide +kernel
theorem dX8_prepare_82 : decode cX8_prepare 82 = .ok (.aload_n 1, 1) := by decide +kernel
theorem dX8_prepare_83 : decode cX8_prepare 83 = .ok (.getfield 50, 3) := by decide +kernel
theorem dX8_prepare_86 : decode cX8_prepare 86 = .ok (.invokevirtual 63, 3) := by decide +kernel
theorem dX8_prepare_89 : decode cX8_prepare 89 = .ok (.return_, 1) := by decide +kernel
theorem dX8_add_0 : decode cX8_add 0 = .ok (.aload_n 0, 1) := by decide +kernel
theorem dX8_add_1 : decode cX8_add 1 = .ok (.getfield 19, 3) := by decide +kernel
theorem dX8_add_4 : decode cX8_add 4 = .ok (.aload_n 0, 1) := by decide +kernel
theorem dX8_add_5 : decode cX8_add 5 = .ok (.getfield 11, 3) := by decide +kernel
theorem dX8_add_8 : decode cX8_add 8 = .ok (.arraylength, 1) := by decide +kernel
theorem dX8_add_9 : decode cX8_add 9 = .ok (.if_icmp .ge 41, 3) := by decide +kernel
theorem dX8_add_12 : decode cX8_add 12 = .ok (.aload_n 0, 1) := by decide +kernel
theorem dX8_add_13 : decode cX8_add 13 = .ok (.getfield 11, 3) := by decide +kernel
theorem dX8_add_16 : decode cX8_add 16 = .ok (.aload_n 0, 1) := by decide +kernel
theorem dX8_add_17 : decode cX8_add 17 = .ok (.getfield 19, 3) := by decide +kernel
theorem dX8_add_20 : decode cX8_add 20 = .ok (.lload_n 1, 1) := by decide +kernel
theorem dX8_add_21 : decode cX8_add 21 = .ok (.lastore, 1) := by decide +kernel
theorem dX8_add_22 : decode cX8_add 22 = .ok (.aload_n 0, 1) := by decide +kernel
theorem dX8_add_23 : decode cX8_add 23 = .ok (.getfield 15, 3) := by decide +kernel
theorem dX8_add_26 : decode cX8_add 26 = .ok (.aload_n 0, 1) := by decide +kernel
theorem dX8_add_27 : decode cX8_add 27 = .ok (.getfield 19, 3) := by decide +kernel
theorem dX8_add_30 : decode cX8_add 30 = .ok (.aload_n 0, 1) := by decide +kernel
theorem dX8_add_31 : decode cX8_add 31 = .ok (.getfield 26, 3) := by decide +kernel
theorem dX8_add_34 : decode cX8_add 34 = .ok (.bipush 41, 2) := by decide +kernel
theorem dX8_add_36 : decode cX8_add 36 = .ok (.imul, 1) := by decide +kernel
theorem dX8_add_37 : decode cX8_add 37 = .ok (.iload_n 3, 1) := by decide +kernel
theorem dX8_add_38 : decode cX8_add 38 = .ok (.iadd, 1) := by decide +kernel
theorem dX8_add_39 : decode cX8_add 39 = .ok (.iastore, 1) := by decide +kernel
theorem dX8_add_40 : decode cX8_add 40 = .ok (.aload_n 0, 1) := by decide +kernel
theorem dX8_add_41 : decode cX8_add 41 = .ok (.dup, 1) := by decide +kernel
theorem dX8_add_42 : decode cX8_add 42 = .ok (.getfield 19, 3) := by decide +kernel
theorem dX8_add_45 : decode cX8_add 45 = .ok (.iconst 1, 1) := by decide +kernel
theorem dX8_add_46 : decode cX8_add 46 = .ok (.iadd, 1) := by decide +kernel
theorem dX8_add_47 : decode cX8_add 47 = .ok (.putfield 19, 3) := by decide +kernel
theorem dX8_add_50 : decode cX8_add 50 = .ok (.return_, 1) := by decide +kernel
set_option maxRecDepth 20000 in
theorem ggX8_fillWeights_X1_weigh : GoodIn wsX8_fillWeights wsX1_weigh := goodIn_r _ [9, 10, 11, 12, 13, 8, 14, 15, 16, 17, 18, 19, 20, 21, 22, 23, 24, 25, 26, 27, 28, 29, 42, 43] (by decide +kernel) (by decide +kernel)
set_option maxRecDepth 20000 in
theorem gX8_fillWeights_X1_weigh : GoodIn wsX8_fillWeights (wsV RX8 74 RX1 yX1_weigh wsX1_weigh) := goodIn_app (goodIn_of _ (by decide +kernel)) ggX8_fillWeights_X1_weigh
theorem dX8_fillWeights_0 : decode cX8_fillWeights 0 = .ok (.iconst 1, 1) := by decide +kernel
theorem dX8_fillWeights_1 : decode cX8_fillWeights 1 = .ok (.istore_n 3, 1) := by decide +kernel
theorem dX8_fillWeights_2 : decode cX8_fillWeights 2 = .ok (.iload_n 3, 1) := by decide +kernel
theorem dX8_fillWeights_3 : decode cX8_fillWeights 3 = .ok (.aload_n 1, 1) := by decide +kernel
theorem dX8_fillWeights_4 : decode cX8_fillWeights 4 = .ok (.getfield 50, 3) := by decide +kernel
theorem dX8_fillWeights_7 : decode cX8_fillWeights 7 = .ok (.if_icmp .gt 71, 3) := by decide +kernel
theorem dX8_fillWeights_10 : decode cX8_fillWeights 10 = .ok (.iload_n 2, 1) := by decide +kernel
theorem dX8_fillWeights_11 : decode cX8_fillWeights 11 = .ok (.bipush 41, 2) := by decide +kernel
theorem dX8_fillWeights_13 : decode cX8_fillWeights 13 = .ok (.imul, 1) := by decide +kernel
theorem dX8_fillWeights_14 : decode cX8_fillWeights 14 = .ok (.iload_n 3, 1) := by decide +kernel
theorem dX8_fillWeights_15 : decode cX8_fillWeights 15 = .ok (.iadd, 1) := by decide +kernel
theorem dX8_fillWeights_16 : decode cX8_fillWeights 16 = .ok (.iconst 4, 1) := by decide +kernel
theorem dX8_fillWeights_17 : decode cX8_fillWeights 17 = .ok (.imul, 1) := by decide +kernel
theorem dX8_fillWeights_18 : decode cX8_fillWeights 18 = .ok (.istore 4, 2) := by decide +kernel
theorem dX8_fillWeights_20 : decode cX8_fillWeights 20 = .ok (.iconst 0, 1) := by decide +kernel
theorem dX8_fillWeights_21 : decode cX8_fillWeights 21 = .ok (.istore 5, 2) := by decide +kernel
theorem dX8_fillWeights_23 : decode cX8_fillWeights 23 = .ok (.iload 5, 2) := by decide +kernel
theorem dX8_fillWeights_25 : decode cX8_fillWeights 25 = .ok (.aload_n 1, 1) := by decide +kernel
theorem dX8_fillWeights_26 : decode cX8_fillWeights 26 = .ok (.getfield 67, 3) := by decide +kernel
theorem dX8_fillWeights_29 : decode cX8_fillWeights 29 = .ok (.if_icmp .ge 43, 3) := by decide +kernel
theorem dX8_fillWeights_32 : decode cX8_fillWeights 32 = .ok (.iload 4, 2) := by decide +kernel
theorem dX8_fillWeights_34 : decode cX8_fillWeights 34 = .ok (.iload 5, 2) := by decide +kernel
theorem dX8_fillWeights_36 : decode cX8_fillWeights 36 = .ok (.iadd, 1) := by decide +kernel
theorem dX8_fillWeights_37 : decode cX8_fillWeights 37 = .ok (.aload_n 0, 1) := by decide +kernel
theorem dX8_fillWeights_38 : decode cX8_fillWeights 38 = .ok (.getfield 29, 3) := by decide +kernel
theorem dX8_fillWeights_41 : decode cX8_fillWeights 41 = .ok (.arraylength, 1) := by decide +kernel
theorem dX8_fillWeights_42 : decode cX8_fillWeights 42 = .ok (.if_icmp .ge 30, 3) := by decide +kernel
theorem dX8_fillWeights_45 : decode cX8_fillWeights 45 = .ok (.aload_n 0, 1) := by decide +kernel
theorem dX8_fillWeights_46 : decode cX8_fillWeights 46 = .ok (.getfield 29, 3) := by decide +kernel
theorem dX8_fillWeights_49 : decode cX8_fillWeights 49 = .ok (.iload 4, 2) := by decide +kernel
theorem dX8_fillWeights_51 : decode cX8_fillWeights 51 = .ok (.iload 5, 2) := by decide +kernel
theorem dX8_fillWeights_53 : decode cX8_fillWeights 53 = .ok (.iadd, 1) := by decide +kernel
theorem dX8_fillWeights_54 : decode cX8_fillWeights 54 = .ok (.aload_n 1, 1) := by decide +kernel
theorem dX8_fillWeights_55 : decode cX8_fillWeights 55 = .ok (.getfield 70, 3) := by decide +kernel
theorem dX8_fillWeights_58 : decode cX8_fillWeights 58 = .ok (.iload_n 2, 1) := by decide +kernel
theorem dX8_fillWeights_59 : decode cX8_fillWeights 59 = .ok (.iload_n 3, 1) := by decide +kernel
theorem dX8_fillWeights_60 : decode cX8_fillWeights 60 = .ok (.iload 5, 2) := by decide +kernel
theorem dX8_fillWeights_62 : decode cX8_fillWeights 62 = .ok (.invokevirtual 74, 3) := by decide +kernel
theorem dX8_fillWeights_65 : decode cX8_fillWeights 65 = .ok (.iastore, 1) := by decide +kernel
theorem dX8_fillWeights_66 : decode cX8_fillWeights 66 = .ok (.iinc 5 1, 3) := by decide +kernel
theorem dX8_fillWeights_69 : decode cX8_fillWeights 69 = .ok (.goto (-46), 3) := by decide +kernel
theorem dX8_fillWeights_72 : decode cX8_fillWeights 72 = .ok (.iinc 3 1, 3) := by decide +kernel
theorem dX8_fillWeights_75 : decode cX8_fillWeights 75 = .ok (.goto (-73), 3) := by decide +kernel
theorem dX8_fillWeights_78 : decode cX8_fillWeights 78 = .ok (.return_, 1) := by decide +kernel
theorem dX8_fillRests_0 : decode cX8_fillRests 0 = .ok (.iconst 0, 1) := by decide +kernel
theorem dX8_fillRests_1 : decode cX8_fillRests 1 = .ok (.istore_n 2, 1) := by decide +kernel
theorem dX8_fillRests_2 : decode cX8_fillRests 2 = .ok (.iconst 1, 1) := by decide +kernel
theorem dX8_fillRests_3 : decode cX8_fillRests 3 = .ok (.istore_n 3, 1) := by decide +kernel
theorem dX8_fillRests_4 : decode cX8_fillRests 4 = .ok (.iload_n 3, 1) := by decide +kernel
theorem dX8_fillRests_5 : decode cX8_fillRests 5 = .ok (.bipush 40, 2) := by decide +kernel
theorem dX8_fillRests_7 : decode cX8_fillRests 7 = .ok (.if_icmp .gt 91, 3) := by decide +kernel
theorem dX8_fillRests_10 : decode cX8_fillRests 10 = .ok (.aload_n 0, 1) := by decide +kernel
theorem dX8_fillRests_11 : decode cX8_fillRests 11 = .ok (.getfield 35, 3) := by decide +kernel
theorem dX8_fillRests_14 : decode cX8_fillRests 14 = .ok (.iload_n 3, 1) := by decide +kernel
theorem dX8_fillRests_15 : decode cX8_fillRests 15 = .ok (.iload_n 2, 1) := by decide +kernel
theorem dX8_fillRests_16 : decode cX8_fillRests 16 = .ok (.iastore, 1) := by decide +kernel
theorem dX8_fillRests_17 : decode cX8_fillRests 17 = .ok (.lconst 1, 1) := by decide +kernel
theorem dX8_fillRests_18 : decode cX8_fillRests 18 = .ok (.iload_n 3, 1) := by decide +kernel
theorem dX8_fillRests_19 : decode cX8_fillRests 19 = .ok (.lshl, 1) := by decide +kernel
theorem dX8_fillRests_20 : decode cX8_fillRests 20 = .ok (.lstore 4, 2) := by decide +kernel
theorem dX8_fillRests_22 : decode cX8_fillRests 22 = .ok (.iconst 0, 1) := by decide +kernel
theorem dX8_fillRests_23 : decode cX8_fillRests 23 = .ok (.istore 6, 2) := by decide +kernel
theorem dX8_fillRests_25 : decode cX8_fillRests 25 = .ok (.iload_n 3, 1) := by decide +kernel
theorem dX8_fillRests_26 : decode cX8_fillRests 26 = .ok (.iload_n 1, 1) := by decide +kernel
theorem dX8_fillRests_27 : decode cX8_fillRests 27 = .ok (.if_icmp .gt 65, 3) := by decide +kernel
theorem dX8_fillRests_30 : decode cX8_fillRests 30 = .ok (.iload 6, 2) := by decide +kernel
theorem dX8_fillRests_32 : decode cX8_fillRests 32 = .ok (.aload_n 0, 1) := by decide +kernel
theorem dX8_fillRests_33 : decode cX8_fillRests 33 = .ok (.getfield 19, 3) := by decide +kernel
theorem dX8_fillRests_36 : decode cX8_fillRests 36 = .ok (.if_icmp .ge 56, 3) := by decide +kernel
theorem dX8_fillRests_39 : decode cX8_fillRests 39 = .ok (.iload_n 2, 1) := by decide +kernel
theorem dX8_fillRests_40 : decode cX8_fillRests 40 = .ok (.aload_n 0, 1) := by decide +kernel
theorem dX8_fillRests_41 : decode cX8_fillRests 41 = .ok (.getfield 32, 3) := by decide +kernel
theorem dX8_fillRests_44 : decode cX8_fillRests 44 = .ok (.arraylength, 1) := by decide +kernel
theorem dX8_fillRests_45 : decode cX8_fillRests 45 = .ok (.if_icmp .ge 47, 3) := by decide +kernel
theorem dX8_fillRests_48 : decode cX8_fillRests 48 = .ok (.aload_n 0, 1) := by decide +kernel
theorem dX8_fillRests_49 : decode cX8_fillRests 49 = .ok (.getfield 11, 3) := by decide +kernel
theorem dX8_fillRests_52 : decode cX8_fillRests 52 = .ok (.iload 6, 2) := by decide +kernel
theorem dX8_fillRests_54 : decode cX8_fillRests 54 = .ok (.laload, 1) := by decide +kernel
theorem dX8_fillRests_55 : decode cX8_fillRests 55 = .ok (.lload 4, 2) := by decide +kernel
theorem dX8_fillRests_57 : decode cX8_fillRests 57 = .ok (.land, 1) := by decide +kernel
theorem dX8_fillRests_58 : decode cX8_fillRests 58 = .ok (.lconst 0, 1) := by decide +kernel
theorem dX8_fillRests_59 : decode cX8_fillRests 59 = .ok (.lcmp, 1) := by decide +kernel
theorem dX8_fillRests_60 : decode cX8_fillRests 60 = .ok (.ifCond .eq 26, 3) := by decide +kernel
theorem dX8_fillRests_63 : decode cX8_fillRests 63 = .ok (.aload_n 0, 1) := by decide +kernel
theorem dX8_fillRests_64 : decode cX8_fillRests 64 = .ok (.getfield 32, 3) := by decide +kernel
theorem dX8_fillRests_67 : decode cX8_fillRests 67 = .ok (.iload_n 2, 1) := by decide +kernel
theorem dX8_fillRests_68 : decode cX8_fillRests 68 = .ok (.aload_n 0, 1) := by decide +kernel
theorem dX8_fillRests_69 : decode cX8_fillRests 69 = .ok (.getfield 11, 3) := by decide +kernel
theorem dX8_fillRests_72 : decode cX8_fillRests 72 = .ok (.iload 6, 2) := by decide +kernel
theorem dX8_fillRests_74 : decode cX8_fillRests 74 = .ok (.laload, 1) := by decide +kernel
theorem dX8_fillRests_75 : decode cX8_fillRests 75 = .ok (.lload 4, 2) := by decide +kernel
theorem dX8_fillRests_77 : decode cX8_fillRests 77 = .ok (.ldc2_w 80, 3) := by decide +kernel
theorem dX8_fillRests_80 : decode cX8_fillRests 80 = .ok (.lxor, 1) := by decide +kernel
theorem dX8_fillRests_81 : decode cX8_fillRests 81 = .ok (.land, 1) := by decide +kernel
theorem dX8_fillRests_82 : decode cX8_fillRests 82 = .ok (.lastore, 1) := by decide +kernel
theorem dX8_fillRests_83 : decode cX8_fillRests 83 = .ok (.iinc 2 1, 3) := by decide +kernel
theorem dX8_fillRests_86 : decode cX8_fillRests 86 = .ok (.iinc 6 1, 3) := by decide +kernel
theorem dX8_fillRests_89 : decode cX8_fillRests 89 = .ok (.goto (-64), 3) := by decide +kernel
theorem dX8_fillRests_92 : decode cX8_fillRests 92 = .ok (.iinc 3 1, 3) := by decide +kernel
theorem dX8_fillRests_95 : decode cX8_fillRests 95 = .ok (.goto (-91), 3) := by decide +kernel
theorem dX8_fillRests_98 : decode cX8_fillRests 98 = .ok (.aload_n 0, 1) := by decide +kernel
theorem dX8_fillRests_99 : decode cX8_fillRests 99 = .ok (.getfield 35, 3) := by decide +kernel
theorem dX8_fillRests_102 : decode cX8_fillRests 102 = .ok (.bipush 41, 2) := by decide +kernel
theorem dX8_fillRests_104 : decode cX8_fillRests 104 = .ok (.iload_n 2, 1) := by decide +kernel
theorem dX8_fillRests_105 : decode cX8_fillRests 105 = .ok (.iastore, 1) := by decide +kernel
theorem dX8_fillRests_106 : decode cX8_fillRests 106 = .ok (.return_, 1) := by decide +kernel
theorem dX8_size_0 : decode cX8_size 0 = .ok (.aload_n 0, 1) := by decide +kernel
theorem dX8_size_1 : decode cX8_size 1 = .ok (.getfield 19, 3) := by decide +kernel
theorem dX8_size_4 : decode cX8_size 4 = .ok (.ireturn, 1) := by decide +kernel
theorem dX8_sizeOf_0 : decode cX8_sizeOf 0 = .ok (.iload_n 1, 1) := by decide +kernel
theorem dX8_sizeOf_1 : decode cX8_sizeOf 1 = .ok (.ifCond .lt 26, 3) := by decide +kernel
theorem dX8_sizeOf_4 : decode cX8_sizeOf 4 = .ok (.iload_n 1, 1) := by decide +kernel
theorem dX8_sizeOf_5 : decode cX8_sizeOf 5 = .ok (.iconst 4, 1) := by decide +kernel
theorem dX8_sizeOf_6 : decode cX8_sizeOf 6 = .ok (.if_icmp .ge 21, 3) := by decide +kernel
theorem dX8_sizeOf_9 : decode cX8_sizeOf 9 = .ok (.aload_n 0, 1) := by decide +kernel
theorem dX8_sizeOf_10 : decode cX8_sizeOf 10 = .ok (.getfield 23, 3) := by decide +kernel
theorem dX8_sizeOf_13 : decode cX8_sizeOf 13 = .ok (.iload_n 1, 1) := by decide +kernel
theorem dX8_sizeOf_14 : decode cX8_sizeOf 14 = .ok (.iconst 1, 1) := by decide +kernel
theorem dX8_sizeOf_15 : decode cX8_sizeOf 15 = .ok (.iadd, 1) := by decide +kernel
theorem dX8_sizeOf_16 : decode cX8_sizeOf 16 = .ok (.iaload, 1) := by decide +kernel
theorem dX8_sizeOf_17 : decode cX8_sizeOf 17 = .ok (.aload_n 0, 1) := by decide +kernel
theorem dX8_sizeOf_18 : decode cX8_sizeOf 18 = .ok (.getfield 23, 3) := by decide +kernel
theorem dX8_sizeOf_21 : decode cX8_sizeOf 21 = .ok (.iload_n 1, 1) := by decide +kernel
theorem dX8_sizeOf_22 : decode cX8_sizeOf 22 = .ok (.iaload, 1) := by decide +kernel
theorem dX8_sizeOf_23 : decode cX8_sizeOf 23 = .ok (.isub, 1) := by decide +kernel
theorem dX8_sizeOf_24 : decode cX8_sizeOf 24 = .ok (.goto 4, 3) := by decide +kernel
theorem dX8_sizeOf_27 : decode cX8_sizeOf 27 = .ok (.iconst 0, 1) := by decide +kernel
theorem dX8_sizeOf_28 : decode cX8_sizeOf 28 = .ok (.ireturn, 1) := by decide +kernel
theorem dX8_setOf_0 : decode cX8_setOf 0 = .ok (.iload_n 1, 1) := by decide +kernel
theorem dX8_setOf_1 : decode cX8_setOf 1 = .ok (.ifCond .lt 20, 3) := by decide +kernel
theorem dX8_setOf_4 : decode cX8_setOf 4 = .ok (.iload_n 1, 1) := by decide +kernel
theorem dX8_setOf_5 : decode cX8_setOf 5 = .ok (.aload_n 0, 1) := by decide +kernel
theorem dX8_setOf_6 : decode cX8_setOf 6 = .ok (.getfield 19, 3) := by decide +kernel
theorem dX8_setOf_9 : decode cX8_setOf 9 = .ok (.if_icmp .ge 12, 3) := by decide +kernel
theorem dX8_setOf_12 : decode cX8_setOf 12 = .ok (.aload_n 0, 1) := by decide +kernel
theorem dX8_setOf_13 : decode cX8_setOf 13 = .ok (.getfield 11, 3) := by decide +kernel
theorem dX8_setOf_16 : decode cX8_setOf 16 = .ok (.iload_n 1, 1) := by decide +kernel
theorem dX8_setOf_17 : decode cX8_setOf 17 = .ok (.laload, 1) := by decide +kernel
theorem dX8_setOf_18 : decode cX8_setOf 18 = .ok (.goto 4, 3) := by decide +kernel
theorem dX8_setOf_21 : decode cX8_setOf 21 = .ok (.lconst 0, 1) := by decide +kernel
theorem dX8_setOf_22 : decode cX8_setOf 22 = .ok (.lreturn, 1) := by decide +kernel
theorem dX8_ruleOf_0 : decode cX8_ruleOf 0 = .ok (.iload_n 1, 1) := by decide +kernel
theorem dX8_ruleOf_1 : decode cX8_ruleOf 1 = .ok (.ifCond .lt 23, 3) := by decide +kernel
theorem dX8_ruleOf_4 : decode cX8_ruleOf 4 = .ok (.iload_n 1, 1) := by decide +kernel
theorem dX8_ruleOf_5 : decode cX8_ruleOf 5 = .ok (.aload_n 0, 1) := by decide +kernel
theorem dX8_ruleOf_6 : decode cX8_ruleOf 6 = .ok (.getfield 19, 3) := by decide +kernel
theorem dX8_ruleOf_9 : decode cX8_ruleOf 9 = .ok (.if_icmp .ge 15, 3) := by decide +kernel
theorem dX8_ruleOf_12 : decode cX8_ruleOf 12 = .ok (.aload_n 0, 1) := by decide +kernel
theorem dX8_ruleOf_13 : decode cX8_ruleOf 13 = .ok (.getfield 15, 3) := by decide +kernel
theorem dX8_ruleOf_16 : decode cX8_ruleOf 16 = .ok (.iload_n 1, 1) := by decide +kernel
theorem dX8_ruleOf_17 : decode cX8_ruleOf 17 = .ok (.iaload, 1) := by decide +kernel
theorem dX8_ruleOf_18 : decode cX8_ruleOf 18 = .ok (.bipush 41, 2) := by decide +kernel
theorem dX8_ruleOf_20 : decode cX8_ruleOf 20 = .ok (.idiv, 1) := by decide +kernel
theorem dX8_ruleOf_21 : decode cX8_ruleOf 21 = .ok (.goto 4, 3) := by decide +kernel
theorem dX8_ruleOf_24 : decode cX8_ruleOf 24 = .ok (.iconst (-1), 1) := by decide +kernel
theorem dX8_ruleOf_25 : decode cX8_ruleOf 25 = .ok (.ireturn, 1) := by decide +kernel
theorem dX8_greatestOf_0 : decode cX8_greatestOf 0 = .ok (.iload_n 1, 1) := by decide +kernel
theorem dX8_greatestOf_1 : decode cX8_greatestOf 1 = .ok (.ifCond .lt 23, 3) := by decide +kernel
theorem dX8_greatestOf_4 : decode cX8_greatestOf 4 = .ok (.iload_n 1, 1) := by decide +kernel
theorem dX8_greatestOf_5 : decode cX8_greatestOf 5 = .ok (.aload_n 0, 1) := by decide +kernel
theorem dX8_greatestOf_6 : decode cX8_greatestOf 6 = .ok (.getfield 19, 3) := by decide +kernel
theorem dX8_greatestOf_9 : decode cX8_greatestOf 9 = .ok (.if_icmp .ge 15, 3) := by decide +kernel
theorem dX8_greatestOf_12 : decode cX8_greatestOf 12 = .ok (.aload_n 0, 1) := by decide +kernel
theorem dX8_greatestOf_13 : decode cX8_greatestOf 13 = .ok (.getfield 15, 3) := by decide +kernel
theorem dX8_greatestOf_16 : decode cX8_greatestOf 16 = .ok (.iload_n 1, 1) := by decide +kernel
theorem dX8_greatestOf_17 : decode cX8_greatestOf 17 = .ok (.iaload, 1) := by decide +kernel
theorem dX8_greatestOf_18 : decode cX8_greatestOf 18 = .ok (.bipush 41, 2) := by decide +kernel
theorem dX8_greatestOf_20 : decode cX8_greatestOf 20 = .ok (.irem, 1) := by decide +kernel
theorem dX8_greatestOf_21 : decode cX8_greatestOf 21 = .ok (.goto 4, 3) := by decide +kernel
theorem dX8_greatestOf_24 : decode cX8_greatestOf 24 = .ok (.iconst (-1), 1) := by decide +kernel
theorem dX8_greatestOf_25 : decode cX8_greatestOf 25 = .ok (.ireturn, 1) := by decide +kernel
set_option maxRecDepth 20000 in
theorem ggX8_smallestOf_X8_setOf : GoodIn wsX8_smallestOf wsX8_setOf := goodIn_r _ [5, 6, 7, 18, 19, 20, 21, 22, 23, 24, 25] (by decide +kernel) (by decide +kernel)
set_option maxRecDepth 20000 in
theorem gX8_smallestOf_X8_setOf : GoodIn wsX8_smallestOf (wsV RX8 82 RX8 yX8_setOf wsX8_setOf) := goodIn_app (goodIn_of _ (by decide +kernel)) ggX8_smallestOf_X8_setOf
set_option maxRecDepth 20000 in
theorem ggX8_smallestOf_X8_firstNumber : GoodIn wsX8_smallestOf wsX8_firstNumber := goodIn_r _ [10, 11, 12, 13, 14, 15, 16, 17] (by decide +kernel) (by decide +kernel)
set_option maxRecDepth 20000 in
theorem gX8_smallestOf_X8_firstNumber : GoodIn wsX8_smallestOf (va_wsS RX8 86 yX8_firstNumber wsX8_firstNumber) := goodIn_app (goodIn_of _ (by decide +kernel)) ggX8_smallestOf_X8_firstNumber
theorem dX8_smallestOf_0 : decode cX8_smallestOf 0 = .ok (.aload_n 0, 1) := by decide +kernel
theorem dX8_smallestOf_1 : decode cX8_smallestOf 1 = .ok (.iload_n 1, 1) := by decide +kernel
theorem dX8_smallestOf_2 : decode cX8_smallestOf 2 = .ok (.invokevirtual 82, 3) := by decide +kernel
theorem dX8_smallestOf_5 : decode cX8_smallestOf 5 = .ok (.invokestatic 86, 3) := by decide +kernel
theorem dX8_smallestOf_8 : decode cX8_smallestOf 8 = .ok (.ireturn, 1) := by decide +kernel
theorem dX8_weightOf_0 : decode cX8_weightOf 0 = .ok (.iload_n 1, 1) := by decide +kernel
theorem dX8_weightOf_1 : decode cX8_weightOf 1 = .ok (.ifCond .lt 20, 3) := by decide +kernel
theorem dX8_weightOf_4 : decode cX8_weightOf 4 = .ok (.iload_n 1, 1) := by decide +kernel
theorem dX8_weightOf_5 : decode cX8_weightOf 5 = .ok (.aload_n 0, 1) := by decide +kernel
theorem dX8_weightOf_6 : decode cX8_weightOf 6 = .ok (.getfield 19, 3) := by decide +kernel
theorem dX8_weightOf_9 : decode cX8_weightOf 9 = .ok (.if_icmp .ge 12, 3) := by decide +kernel
theorem dX8_weightOf_12 : decode cX8_weightOf 12 = .ok (.iload_n 2, 1) := by decide +kernel
theorem dX8_weightOf_13 : decode cX8_weightOf 13 = .ok (.ifCond .lt 8, 3) := by decide +kernel
theorem dX8_weightOf_16 : decode cX8_weightOf 16 = .ok (.iload_n 2, 1) := by decide +kernel
theorem dX8_weightOf_17 : decode cX8_weightOf 17 = .ok (.iconst 4, 1) := by decide +kernel
theorem dX8_weightOf_18 : decode cX8_weightOf 18 = .ok (.if_icmp .lt 5, 3) := by decide +kernel
theorem dX8_weightOf_21 : decode cX8_weightOf 21 = .ok (.iconst 0, 1) := by decide +kernel
theorem dX8_weightOf_22 : decode cX8_weightOf 22 = .ok (.ireturn, 1) := by decide +kernel
theorem dX8_weightOf_23 : decode cX8_weightOf 23 = .ok (.aload_n 0, 1) := by decide +kernel
theorem dX8_weightOf_24 : decode cX8_weightOf 24 = .ok (.getfield 15, 3) := by decide +kernel
theorem dX8_weightOf_27 : decode cX8_weightOf 27 = .ok (.iload_n 1, 1) := by decide +kernel
theorem dX8_weightOf_28 : decode cX8_weightOf 28 = .ok (.iaload, 1) := by decide +kernel
theorem dX8_weightOf_29 : decode cX8_weightOf 29 = .ok (.iconst 4, 1) := by decide +kernel
theorem dX8_weightOf_30 : decode cX8_weightOf 30 = .ok (.imul, 1) := by decide +kernel
theorem dX8_weightOf_31 : decode cX8_weightOf 31 = .ok (.iload_n 2, 1) := by decide +kernel
theorem dX8_weightOf_32 : decode cX8_weightOf 32 = .ok (.iadd, 1) := by decide +kernel
theorem dX8_weightOf_33 : decode cX8_weightOf 33 = .ok (.istore_n 3, 1) := by decide +kernel
theorem dX8_weightOf_34 : decode cX8_weightOf 34 = .ok (.iload_n 3, 1) := by decide +kernel
theorem dX8_weightOf_35 : decode cX8_weightOf 35 = .ok (.aload_n 0, 1) := by decide +kernel
theorem dX8_weightOf_36 : decode cX8_weightOf 36 = .ok (.getfield 29, 3) := by decide +kernel
theorem dX8_weightOf_39 : decode cX8_weightOf 39 = .ok (.arraylength, 1) := by decide +kernel
theorem dX8_weightOf_40 : decode cX8_weightOf 40 = .ok (.if_icmp .ge 12, 3) := by decide +kernel
theorem dX8_weightOf_43 : decode cX8_weightOf 43 = .ok (.aload_n 0, 1) := by decide +kernel
theorem dX8_weightOf_44 : decode cX8_weightOf 44 = .ok (.getfield 29, 3) := by decide +kernel
theorem dX8_weightOf_47 : decode cX8_weightOf 47 = .ok (.iload_n 3, 1) := by decide +kernel
theorem dX8_weightOf_48 : decode cX8_weightOf 48 = .ok (.iaload, 1) := by decide +kernel
theorem dX8_weightOf_49 : decode cX8_weightOf 49 = .ok (.goto 4, 3) := by decide +kernel
theorem dX8_weightOf_52 : decode cX8_weightOf 52 = .ok (.iconst 0, 1) := by decide +kernel
theorem dX8_weightOf_53 : decode cX8_weightOf 53 = .ok (.ireturn, 1) := by decide +kernel
set_option maxRecDepth 20000 in
theorem ggX8_countConflicts_X0_commonColour : GoodIn wsX8_countConflicts wsX0_commonColour := goodIn_r _ [8, 9, 10, 19, 20] (by decide +kernel) (by decide +kernel)
set_option maxRecDepth 20000 in
theorem gX8_countConflicts_X0_commonColour : GoodIn wsX8_countConflicts (wsV RX8 90 RX0 yX0_commonColour wsX0_commonColour) := goodIn_app (goodIn_of _ (by decide +kernel)) ggX8_countConflicts_X0_commonColour
theorem dX8_countConflicts_0 : decode cX8_countConflicts 0 = .ok (.iconst 0, 1) := by decide +kernel
theorem dX8_countConflicts_1 : decode cX8_countConflicts 1 = .ok (.istore 4, 2) := by decide +kernel
theorem dX8_countConflicts_3 : decode cX8_countConflicts 3 = .ok (.iconst 0, 1) := by decide +kernel
theorem dX8_countConflicts_4 : decode cX8_countConflicts 4 = .ok (.istore 5, 2) := by decide +kernel
theorem dX8_countConflicts_6 : decode cX8_countConflicts 6 = .ok (.iload 5, 2) := by decide +kernel
theorem dX8_countConflicts_8 : decode cX8_countConflicts 8 = .ok (.aload_n 0, 1) := by decide +kernel
theorem dX8_countConflicts_9 : decode cX8_countConflicts 9 = .ok (.getfield 19, 3) := by decide +kernel
theorem dX8_countConflicts_12 : decode cX8_countConflicts 12 = .ok (.if_icmp .ge 45, 3) := by decide +kernel
theorem dX8_countConflicts_15 : decode cX8_countConflicts 15 = .ok (.lload_n 2, 1) := by decide +kernel
theorem dX8_countConflicts_16 : decode cX8_countConflicts 16 = .ok (.aload_n 0, 1) := by decide +kernel
theorem dX8_countConflicts_17 : decode cX8_countConflicts 17 = .ok (.getfield 11, 3) := by decide +kernel
theorem dX8_countConflicts_20 : decode cX8_countConflicts 20 = .ok (.iload 5, 2) := by decide +kernel
theorem dX8_countConflicts_22 : decode cX8_countConflicts 22 = .ok (.laload, 1) := by decide +kernel
theorem dX8_countConflicts_23 : decode cX8_countConflicts 23 = .ok (.ldc2_w 80, 3) := by decide +kernel
theorem dX8_countConflicts_26 : decode cX8_countConflicts 26 = .ok (.lxor, 1) := by decide +kernel
theorem dX8_countConflicts_27 : decode cX8_countConflicts 27 = .ok (.land, 1) := by decide +kernel
theorem dX8_countConflicts_28 : decode cX8_countConflicts 28 = .ok (.lconst 0, 1) := by decide +kernel
theorem dX8_countConflicts_29 : decode cX8_countConflicts 29 = .ok (.lcmp, 1) := by decide +kernel
theorem dX8_countConflicts_30 : decode cX8_countConflicts 30 = .ok (.ifCond .ne 21, 3) := by decide +kernel
theorem dX8_countConflicts_33 : decode cX8_countConflicts 33 = .ok (.aload_n 1, 1) := by decide +kernel
theorem dX8_countConflicts_34 : decode cX8_countConflicts 34 = .ok (.aload_n 0, 1) := by decide +kernel
theorem dX8_countConflicts_35 : decode cX8_countConflicts 35 = .ok (.getfield 11, 3) := by decide +kernel
theorem dX8_countConflicts_38 : decode cX8_countConflicts 38 = .ok (.iload 5, 2) := by decide +kernel
theorem dX8_countConflicts_40 : decode cX8_countConflicts 40 = .ok (.laload, 1) := by decide +kernel
theorem dX8_countConflicts_41 : decode cX8_countConflicts 41 = .ok (.invokevirtual 90, 3) := by decide +kernel
theorem dX8_countConflicts_44 : decode cX8_countConflicts 44 = .ok (.iconst (-1), 1) := by decide +kernel
theorem dX8_countConflicts_45 : decode cX8_countConflicts 45 = .ok (.if_icmp .eq 6, 3) := by decide +kernel
theorem dX8_countConflicts_48 : decode cX8_countConflicts 48 = .ok (.iinc 4 1, 3) := by decide +kernel
theorem dX8_countConflicts_51 : decode cX8_countConflicts 51 = .ok (.iinc 5 1, 3) := by decide +kernel
theorem dX8_countConflicts_54 : decode cX8_countConflicts 54 = .ok (.goto (-48), 3) := by decide +kernel
theorem dX8_countConflicts_57 : decode cX8_countConflicts 57 = .ok (.iload 4, 2) := by decide +kernel
theorem dX8_countConflicts_59 : decode cX8_countConflicts 59 = .ok (.ireturn, 1) := by decide +kernel
set_option maxRecDepth 20000 in
theorem ggX8_weighConflicts_X0_commonColour : GoodIn wsX8_weighConflicts wsX0_commonColour := goodIn_r _ [7, 8, 9, 25, 26] (by decide +kernel) (by decide +kernel)
set_option maxRecDepth 20000 in
theorem gX8_weighConflicts_X0_commonColour : GoodIn wsX8_weighConflicts (wsV RX8 90 RX0 yX0_commonColour wsX0_commonColour) := goodIn_app (goodIn_of _ (by decide +kernel)) ggX8_weighConflicts_X0_commonColour
set_option maxRecDepth 20000 in
theorem ggX8_weighConflicts_X8_weightOf : GoodIn wsX8_weighConflicts wsX8_weightOf := goodIn_r _ [14, 1, 15, 16, 17, 18, 19, 20, 21, 22, 23, 24] (by decide +kernel) (by decide +kernel)
set_option maxRecDepth 20000 in
theorem gX8_weighConflicts_X8_weightOf : GoodIn wsX8_weighConflicts (wsV RX8 95 RX8 yX8_weightOf wsX8_weightOf) := goodIn_app (goodIn_of _ (by decide +kernel)) ggX8_weighConflicts_X8_weightOf
theorem dX8_weighConflicts_0 : decode cX8_weighConflicts 0 = .ok (.iconst 0, 1) := by decide +kernel
theorem dX8_weighConflicts_1 : decode cX8_weighConflicts 1 = .ok (.istore_n 2, 1) := by decide +kernel
theorem dX8_weighConflicts_2 : decode cX8_weighConflicts 2 = .ok (.iconst 0, 1) := by decide +kernel
theorem dX8_weighConflicts_3 : decode cX8_weighConflicts 3 = .ok (.istore_n 3, 1) := by decide +kernel
theorem dX8_weighConflicts_4 : decode cX8_weighConflicts 4 = .ok (.iload_n 3, 1) := by decide +kernel
theorem dX8_weighConflicts_5 : decode cX8_weighConflicts 5 = .ok (.aload_n 0, 1) := by decide +kernel
theorem dX8_weighConflicts_6 : decode cX8_weighConflicts 6 = .ok (.getfield 19, 3) := by decide +kernel
theorem dX8_weighConflicts_9 : decode cX8_weighConflicts 9 = .ok (.if_icmp .ge 37, 3) := by decide +kernel
theorem dX8_weighConflicts_12 : decode cX8_weighConflicts 12 = .ok (.aload_n 1, 1) := by decide +kernel
theorem dX8_weighConflicts_13 : decode cX8_weighConflicts 13 = .ok (.aload_n 0, 1) := by decide +kernel
theorem dX8_weighConflicts_14 : decode cX8_weighConflicts 14 = .ok (.getfield 11, 3) := by decide +kernel
theorem dX8_weighConflicts_17 : decode cX8_weighConflicts 17 = .ok (.iload_n 3, 1) := by decide +kernel
theorem dX8_weighConflicts_18 : decode cX8_weighConflicts 18 = .ok (.laload, 1) := by decide +kernel
theorem dX8_weighConflicts_19 : decode cX8_weighConflicts 19 = .ok (.invokevirtual 90, 3) := by decide +kernel
theorem dX8_weighConflicts_22 : decode cX8_weighConflicts 22 = .ok (.istore 4, 2) := by decide +kernel
theorem dX8_weighConflicts_24 : decode cX8_weighConflicts 24 = .ok (.iload 4, 2) := by decide +kernel
theorem dX8_weighConflicts_26 : decode cX8_weighConflicts 26 = .ok (.iconst (-1), 1) := by decide +kernel
theorem dX8_weighConflicts_27 : decode cX8_weighConflicts 27 = .ok (.if_icmp .eq 13, 3) := by decide +kernel
theorem dX8_weighConflicts_30 : decode cX8_weighConflicts 30 = .ok (.iload_n 2, 1) := by decide +kernel
theorem dX8_weighConflicts_31 : decode cX8_weighConflicts 31 = .ok (.aload_n 0, 1) := by decide +kernel
theorem dX8_weighConflicts_32 : decode cX8_weighConflicts 32 = .ok (.iload_n 3, 1) := by decide +kernel
theorem dX8_weighConflicts_33 : decode cX8_weighConflicts 33 = .ok (.iload 4, 2) := by decide +kernel
theorem dX8_weighConflicts_35 : decode cX8_weighConflicts 35 = .ok (.invokevirtual 95, 3) := by decide +kernel
theorem dX8_weighConflicts_38 : decode cX8_weighConflicts 38 = .ok (.iadd, 1) := by decide +kernel
theorem dX8_weighConflicts_39 : decode cX8_weighConflicts 39 = .ok (.istore_n 2, 1) := by decide +kernel
theorem dX8_weighConflicts_40 : decode cX8_weighConflicts 40 = .ok (.iinc 3 1, 3) := by decide +kernel
theorem dX8_weighConflicts_43 : decode cX8_weighConflicts 43 = .ok (.goto (-39), 3) := by decide +kernel
theorem dX8_weighConflicts_46 : decode cX8_weighConflicts 46 = .ok (.iload_n 2, 1) := by decide +kernel
theorem dX8_weighConflicts_47 : decode cX8_weighConflicts 47 = .ok (.ireturn, 1) := by decide +kernel
set_option maxRecDepth 20000 in
theorem ggX8_findConflict_X0_commonColour : GoodIn wsX8_findConflict wsX0_commonColour := goodIn_r _ [7, 8, 9, 18, 19] (by decide +kernel) (by decide +kernel)
set_option maxRecDepth 20000 in
theorem gX8_findConflict_X0_commonColour : GoodIn wsX8_findConflict (wsV RX8 90 RX0 yX0_commonColour wsX0_commonColour) := goodIn_app (goodIn_of _ (by decide +kernel)) ggX8_findConflict_X0_commonColour
theorem dX8_findConflict_0 : decode cX8_findConflict 0 = .ok (.iconst 0, 1) := by decide +kernel
theorem dX8_findConflict_1 : decode cX8_findConflict 1 = .ok (.istore_n 3, 1) := by decide +kernel
theorem dX8_findConflict_2 : decode cX8_findConflict 2 = .ok (.iconst 0, 1) := by decide +kernel
theorem dX8_findConflict_3 : decode cX8_findConflict 3 = .ok (.istore 4, 2) := by decide +kernel
theorem dX8_findConflict_5 : decode cX8_findConflict 5 = .ok (.iload 4, 2) := by decide +kernel
theorem dX8_findConflict_7 : decode cX8_findConflict 7 = .ok (.aload_n 0, 1) := by decide +kernel
theorem dX8_findConflict_8 : decode cX8_findConflict 8 = .ok (.getfield 19, 3) := by decide +kernel
theorem dX8_findConflict_11 : decode cX8_findConflict 11 = .ok (.if_icmp .ge 35, 3) := by decide +kernel
theorem dX8_findConflict_14 : decode cX8_findConflict 14 = .ok (.aload_n 1, 1) := by decide +kernel
theorem dX8_findConflict_15 : decode cX8_findConflict 15 = .ok (.aload_n 0, 1) := by decide +kernel
theorem dX8_findConflict_16 : decode cX8_findConflict 16 = .ok (.getfield 11, 3) := by decide +kernel
theorem dX8_findConflict_19 : decode cX8_findConflict 19 = .ok (.iload 4, 2) := by decide +kernel
theorem dX8_findConflict_21 : decode cX8_findConflict 21 = .ok (.laload, 1) := by decide +kernel
theorem dX8_findConflict_22 : decode cX8_findConflict 22 = .ok (.invokevirtual 90, 3) := by decide +kernel
theorem dX8_findConflict_25 : decode cX8_findConflict 25 = .ok (.iconst (-1), 1) := by decide +kernel
theorem dX8_findConflict_26 : decode cX8_findConflict 26 = .ok (.if_icmp .eq 14, 3) := by decide +kernel
theorem dX8_findConflict_29 : decode cX8_findConflict 29 = .ok (.iload_n 3, 1) := by decide +kernel
theorem dX8_findConflict_30 : decode cX8_findConflict 30 = .ok (.iload_n 2, 1) := by decide +kernel
theorem dX8_findConflict_31 : decode cX8_findConflict 31 = .ok (.if_icmp .ne 6, 3) := by decide +kernel
theorem dX8_findConflict_34 : decode cX8_findConflict 34 = .ok (.iload 4, 2) := by decide +kernel
theorem dX8_findConflict_36 : decode cX8_findConflict 36 = .ok (.ireturn, 1) := by decide +kernel
theorem dX8_findConflict_37 : decode cX8_findConflict 37 = .ok (.iinc 3 1, 3) := by decide +kernel
theorem dX8_findConflict_40 : decode cX8_findConflict 40 = .ok (.iinc 4 1, 3) := by decide +kernel
theorem dX8_findConflict_43 : decode cX8_findConflict 43 = .ok (.goto (-38), 3) := by decide +kernel
theorem dX8_findConflict_46 : decode cX8_findConflict 46 = .ok (.iconst (-1), 1) := by decide +kernel
theorem dX8_findConflict_47 : decode cX8_findConflict 47 = .ok (.ireturn, 1) := by decide +kernel
theorem dX8_allows_0 : decode cX8_allows 0 = .ok (.iload_n 1, 1) := by decide +kernel
theorem dX8_allows_1 : decode cX8_allows 1 = .ok (.iconst 1, 1) := by decide +kernel
theorem dX8_allows_2 : decode cX8_allows 2 = .ok (.if_icmp .lt 9, 3) := by decide +kernel
theorem dX8_allows_5 : decode cX8_allows 5 = .ok (.iload_n 1, 1) := by decide +kernel
theorem dX8_allows_6 : decode cX8_allows 6 = .ok (.bipush 40, 2) := by decide +kernel
theorem dX8_allows_8 : decode cX8_allows 8 = .ok (.if_icmp .le 5, 3) := by decide +kernel
theorem dX8_allows_11 : decode cX8_allows 11 = .ok (.iconst 0, 1) := by decide +kernel
theorem dX8_allows_12 : decode cX8_allows 12 = .ok (.ireturn, 1) := by decide +kernel
theorem dX8_allows_13 : decode cX8_allows 13 = .ok (.aload_n 0, 1) := by decide +kernel
theorem dX8_allows_14 : decode cX8_allows 14 = .ok (.getfield 35, 3) := by decide +kernel
theorem dX8_allows_17 : decode cX8_allows 17 = .ok (.iload_n 1, 1) := by decide +kernel
theorem dX8_allows_18 : decode cX8_allows 18 = .ok (.iconst 1, 1) := by decide +kernel
theorem dX8_allows_19 : decode cX8_allows 19 = .ok (.iadd, 1) := by decide +kernel
theorem dX8_allows_20 : decode cX8_allows 20 = .ok (.iaload, 1) := by decide +kernel
theorem dX8_allows_21 : decode cX8_allows 21 = .ok (.aload_n 0, 1) := by decide +kernel
theorem dX8_allows_22 : decode cX8_allows 22 = .ok (.getfield 32, 3) := by decide +kernel
theorem dX8_allows_25 : decode cX8_allows 25 = .ok (.arraylength, 1) := by decide +kernel
theorem dX8_allows_26 : decode cX8_allows 26 = .ok (.invokestatic 99, 3) := by decide +kernel
theorem dX8_allows_29 : decode cX8_allows 29 = .ok (.istore 4, 2) := by decide +kernel
theorem dX8_allows_31 : decode cX8_allows 31 = .ok (.iconst 0, 1) := by decide +kernel
theorem dX8_allows_32 : decode cX8_allows 32 = .ok (.aload_n 0, 1) := by decide +kernel
theorem dX8_allows_33 : decode cX8_allows 33 = .ok (.getfield 35, 3) := by decide +kernel
theorem dX8_allows_36 : decode cX8_allows 36 = .ok (.iload_n 1, 1) := by decide +kernel
theorem dX8_allows_37 : decode cX8_allows 37 = .ok (.iaload, 1) := by decide +kernel
theorem dX8_allows_38 : decode cX8_allows 38 = .ok (.invokestatic 104, 3) := by decide +kernel
theorem dX8_allows_41 : decode cX8_allows 41 = .ok (.istore 5, 2) := by decide +kernel
theorem dX8_allows_43 : decode cX8_allows 43 = .ok (.iload 5, 2) := by decide +kernel
theorem dX8_allows_45 : decode cX8_allows 45 = .ok (.iload 4, 2) := by decide +kernel
theorem dX8_allows_47 : decode cX8_allows 47 = .ok (.if_icmp .ge 29, 3) := by decide +kernel
theorem dX8_allows_50 : decode cX8_allows 50 = .ok (.aload_n 0, 1) := by decide +kernel
theorem dX8_allows_51 : decode cX8_allows 51 = .ok (.getfield 32, 3) := by decide +kernel
theorem dX8_allows_54 : decode cX8_allows 54 = .ok (.iload 5, 2) := by decide +kernel
theorem dX8_allows_56 : decode cX8_allows 56 = .ok (.laload, 1) := by decide +kernel
theorem dX8_allows_57 : decode cX8_allows 57 = .ok (.lload_n 2, 1) := by decide +kernel
theorem dX8_allows_58 : decode cX8_allows 58 = .ok (.ldc2_w 80, 3) := by decide +kernel
theorem dX8_allows_61 : decode cX8_allows 61 = .ok (.lxor, 1) := by decide +kernel
theorem dX8_allows_62 : decode cX8_allows 62 = .ok (.land, 1) := by decide +kernel
theorem dX8_allows_63 : decode cX8_allows 63 = .ok (.lconst 0, 1) := by decide +kernel
theorem dX8_allows_64 : decode cX8_allows 64 = .ok (.lcmp, 1) := by decide +kernel
theorem dX8_allows_65 : decode cX8_allows 65 = .ok (.ifCond .ne 5, 3) := by decide +kernel
theorem dX8_allows_68 : decode cX8_allows 68 = .ok (.iconst 0, 1) := by decide +kernel
theorem dX8_allows_69 : decode cX8_allows 69 = .ok (.ireturn, 1) := by decide +kernel
theorem dX8_allows_70 : decode cX8_allows 70 = .ok (.iinc 5 1, 3) := by decide +kernel
theorem dX8_allows_73 : decode cX8_allows 73 = .ok (.goto (-30), 3) := by decide +kernel
theorem dX8_allows_76 : decode cX8_allows 76 = .ok (.iconst 1, 1) := by decide +kernel
theorem dX8_allows_77 : decode cX8_allows 77 = .ok (.ireturn, 1) := by decide +kernel
set_option maxRecDepth 20000 in
theorem ggX8_firstNumber_J13_bitCount_95d88 : GoodIn wsX8_firstNumber wsJ13_bitCount_95d88 := goodIn_r _ [4, 5, 6, 7] (by decide +kernel) (by decide +kernel)
set_option maxRecDepth 20000 in
theorem gX8_firstNumber_J13_bitCount_95d88 : GoodIn wsX8_firstNumber (va_wsS RX8 107 yJ13_bitCount_95d88 wsJ13_bitCount_95d88) := goodIn_app (goodIn_of _ (by decide +kernel)) ggX8_firstNumber_J13_bitCount_95d88
theorem dX8_firstNumber_0 : decode cX8_firstNumber 0 = .ok (.lload_n 0, 1) := by decide +kernel
theorem dX8_firstNumber_1 : decode cX8_firstNumber 1 = .ok (.lload_n 0, 1) := by decide +kernel
theorem dX8_firstNumber_2 : decode cX8_firstNumber 2 = .ok (.lneg, 1) := by decide +kernel
theorem dX8_firstNumber_3 : decode cX8_firstNumber 3 = .ok (.land, 1) := by decide +kernel
theorem dX8_firstNumber_4 : decode cX8_firstNumber 4 = .ok (.lconst 1, 1) := by decide +kernel
theorem dX8_firstNumber_5 : decode cX8_firstNumber 5 = .ok (.lsub, 1) := by decide +kernel
theorem dX8_firstNumber_6 : decode cX8_firstNumber 6 = .ok (.invokestatic 107, 3) := by decide +kernel
theorem dX8_firstNumber_9 : decode cX8_firstNumber 9 = .ok (.ireturn, 1) := by decide +kernel
theorem dX9_init_0 : decode cX9_init 0 = .ok (.aload_n 0, 1) := by decide +kernel
theorem dX9_init_1 : decode cX9_init 1 = .ok (.invokespecial 1, 3) := by decide +kernel
theorem dX9_init_4 : decode cX9_init 4 = .ok (.aload_n 0, 1) := by decide +kernel
theorem dX9_init_5 : decode cX9_init 5 = .ok (.iconst 0, 1) := by decide +kernel
theorem dX9_init_6 : decode cX9_init 6 = .ok (.putfield 9, 3) := by decide +kernel
theorem dX9_init_9 : decode cX9_init 9 = .ok (.aload_n 0, 1) := by decide +kernel
theorem dX9_init_10 : decode cX9_init 10 = .ok (.iconst 0, 1) := by decide +kernel
theorem dX9_init_11 : decode cX9_init 11 = .ok (.putfield 13, 3) := by decide +kernel
theorem dX9_init_14 : decode cX9_init 14 = .ok (.aload_n 0, 1) := by decide +kernel
theorem dX9_init_15 : decode cX9_init 15 = .ok (.iconst 0, 1) := by decide +kernel
theorem dX9_init_16 : decode cX9_init 16 = .ok (.putfield 16, 3) := by decide +kernel
theorem dX9_init_19 : decode cX9_init 19 = .ok (.aload_n 0, 1) := by decide +kernel
theorem dX9_init_20 : decode cX9_init 20 = .ok (.iconst 0, 1) := by decide +kernel
theorem dX9_init_21 : decode cX9_init 21 = .ok (.newarray .byte, 2) := by decide +kernel
theorem dX9_init_23 : decode cX9_init 23 = .ok (.putfield 19, 3) := by decide +kernel
theorem dX9_init_26 : decode cX9_init 26 = .ok (.aload_n 0, 1) := by decide +kernel
theorem dX9_init_27 : decode cX9_init 27 = .ok (.iconst 0, 1) := by decide +kernel
theorem dX9_init_28 : decode cX9_init 28 = .ok (.putfield 23, 3) := by decide +kernel
theorem dX9_init_31 : decode cX9_init 31 = .ok (.aload_n 0, 1) := by decide +kernel
theorem dX9_init_32 : decode cX9_init 32 = .ok (.iconst 0, 1) := by decide +kernel
theorem dX9_init_33 : decode cX9_init 33 = .ok (.putfield 26, 3) := by decide +kernel
theorem dX9_init_36 : decode cX9_init 36 = .ok (.return_, 1) := by decide +kernel
set_option maxRecDepth 20000 in
theorem ggX9_begin_X9_advance : GoodIn wsX9_begin wsX9_advance := goodIn_r _ [12, 7, 6, 1, 13, 14, 15, 16, 2, 3, 4, 5, 17, 18, 19, 20, 21, 22] (by decide +kernel) (by decide +kernel)
set_option maxRecDepth 20000 in
theorem gX9_begin_X9_advance : GoodIn wsX9_begin (wsV RX9 35 RX9 yX9_advance wsX9_advance) := goodIn_app (goodIn_of _ (by decide +kernel)) ggX9_begin_X9_advance
theorem dX9_begin_0 : decode cX9_begin 0 = .ok (.aload_n 0, 1) := by decide +kernel
theorem dX9_begin_1 : decode cX9_begin 1 = .ok (.aload_n 1, 1) := by decide +kernel
theorem dX9_begin_2 : decode cX9_begin 2 = .ok (.putfield 19, 3) := by decide +kernel
theorem dX9_begin_5 : decode cX9_begin 5 = .ok (.aload_n 0, 1) := by decide +kernel
theorem dX9_begin_6 : decode cX9_begin 6 = .ok (.iload_n 2, 1) := by decide +kernel
theorem dX9_begin_7 : decode cX9_begin 7 = .ok (.aload_n 1, 1) := by decide +kernel
theorem dX9_begin_8 : decode cX9_begin 8 = .ok (.arraylength, 1) := by decide +kernel
theorem dX9_begin_9 : decode cX9_begin 9 = .ok (.invokestatic 29, 3) := by decide +kernel
theorem dX9_begin_12 : decode cX9_begin 12 = .ok (.putfield 23, 3) := by decide +kernel
theorem dX9_begin_15 : decode cX9_begin 15 = .ok (.aload_n 0, 1) := by decide +kernel
theorem dX9_begin_16 : decode cX9_begin 16 = .ok (.iconst 0, 1) := by decide +kernel
theorem dX9_begin_17 : decode cX9_begin 17 = .ok (.putfield 26, 3) := by decide +kernel
theorem dX9_begin_20 : decode cX9_begin 20 = .ok (.aload_n 0, 1) := by decide +kernel
theorem dX9_begin_21 : decode cX9_begin 21 = .ok (.invokevirtual 35, 3) := by decide +kernel
theorem dX9_begin_24 : decode cX9_begin 24 = .ok (.return_, 1) := by decide +kernel
theorem dX9_advance_0 : decode cX9_advance 0 = .ok (.aload_n 0, 1) := by decide +kernel
theorem dX9_advance_1 : decode cX9_advance 1 = .ok (.getfield 26, 3) := by decide +kernel
theorem dX9_advance_4 : decode cX9_advance 4 = .ok (.aload_n 0, 1) := by decide +kernel
theorem dX9_advance_5 : decode cX9_advance 5 = .ok (.getfield 23, 3) := by decide +kernel
theorem dX9_advance_8 : decode cX9_advance 8 = .ok (.if_icmp .ge 30, 3) := by decide +kernel
theorem dX9_advance_11 : decode cX9_advance 11 = .ok (.aload_n 0, 1) := by decide +kernel
theorem dX9_advance_12 : decode cX9_advance 12 = .ok (.getfield 19, 3) := by decide +kernel
theorem dX9_advance_15 : decode cX9_advance 15 = .ok (.aload_n 0, 1) := by decide +kernel
theorem dX9_advance_16 : decode cX9_advance 16 = .ok (.getfield 26, 3) := by decide +kernel
theorem dX9_advance_19 : decode cX9_advance 19 = .ok (.baload, 1) := by decide +kernel
theorem dX9_advance_20 : decode cX9_advance 20 = .ok (.bipush 32, 2) := by decide +kernel
theorem dX9_advance_22 : decode cX9_advance 22 = .ok (.if_icmp .ne 16, 3) := by decide +kernel
theorem dX9_advance_25 : decode cX9_advance 25 = .ok (.aload_n 0, 1) := by decide +kernel
theorem dX9_advance_26 : decode cX9_advance 26 = .ok (.dup, 1) := by decide +kernel
theorem dX9_advance_27 : decode cX9_advance 27 = .ok (.getfield 26, 3) := by decide +kernel
theorem dX9_advance_30 : decode cX9_advance 30 = .ok (.iconst 1, 1) := by decide +kernel
theorem dX9_advance_31 : decode cX9_advance 31 = .ok (.iadd, 1) := by decide +kernel
theorem dX9_advance_32 : decode cX9_advance 32 = .ok (.putfield 26, 3) := by decide +kernel
theorem dX9_advance_35 : decode cX9_advance 35 = .ok (.goto (-35), 3) := by decide +kernel
theorem dX9_advance_38 : decode cX9_advance 38 = .ok (.aload_n 0, 1) := by decide +kernel
theorem dX9_advance_39 : decode cX9_advance 39 = .ok (.aload_n 0, 1) := by decide +kernel
theorem dX9_advance_40 : decode cX9_advance 40 = .ok (.getfield 26, 3) := by decide +kernel
theorem dX9_advance_43 : decode cX9_advance 43 = .ok (.putfield 13, 3) := by decide +kernel
theorem dX9_advance_46 : decode cX9_advance 46 = .ok (.aload_n 0, 1) := by decide +kernel
theorem dX9_advance_47 : decode cX9_advance 47 = .ok (.iconst 0, 1) := by decide +kernel
theorem dX9_advance_48 : decode cX9_advance 48 = .ok (.putfield 16, 3) := by decide +kernel
theorem dX9_advance_51 : decode cX9_advance 51 = .ok (.aload_n 0, 1) := by decide +kernel
theorem dX9_advance_52 : decode cX9_advance 52 = .ok (.getfield 26, 3) := by decide +kernel
theorem dX9_advance_55 : decode cX9_advance 55 = .ok (.aload_n 0, 1) := by decide +kernel
theorem dX9_advance_56 : decode cX9_advance 56 = .ok (.getfield 23, 3) := by decide +kernel
theorem dX9_advance_59 : decode cX9_advance 59 = .ok (.if_icmp .lt 11, 3) := by decide +kernel
theorem dX9_advance_62 : decode cX9_advance 62 = .ok (.aload_n 0, 1) := by decide +kernel
theorem dX9_advance_63 : decode cX9_advance 63 = .ok (.iconst 0, 1) := by decide +kernel
theorem dX9_advance_64 : decode cX9_advance 64 = .ok (.putfield 9, 3) := by decide +kernel
theorem dX9_advance_67 : decode cX9_advance 67 = .ok (.goto 230, 3) := by decide +kernel
theorem dX9_advance_70 : decode cX9_advance 70 = .ok (.aload_n 0, 1) := by decide +kernel
theorem dX9_advance_71 : decode cX9_advance 71 = .ok (.getfield 19, 3) := by decide +kernel
theorem dX9_advance_74 : decode cX9_advance 74 = .ok (.aload_n 0, 1) := by decide +kernel
theorem dX9_advance_75 : decode cX9_advance 75 = .ok (.getfield 26, 3) := by decide +kernel
theorem dX9_advance_78 : decode cX9_advance 78 = .ok (.baload, 1) := by decide +kernel
theorem dX9_advance_79 : decode cX9_advance 79 = .ok (.bipush 48, 2) := by decide +kernel
theorem dX9_advance_81 : decode cX9_advance 81 = .ok (.if_icmp .lt 103, 3) := by decide +kernel
theorem dX9_advance_84 : decode cX9_advance 84 = .ok (.aload_n 0, 1) := by decide +kernel
theorem dX9_advance_85 : decode cX9_advance 85 = .ok (.getfield 19, 3) := by decide +kernel
theorem dX9_advance_88 : decode cX9_advance 88 = .ok (.aload_n 0, 1) := by decide +kernel
theorem dX9_advance_89 : decode cX9_advance 89 = .ok (.getfield 26, 3) := by decide +kernel
theorem dX9_advance_92 : decode cX9_advance 92 = .ok (.baload, 1) := by decide +kernel
theorem dX9_advance_93 : decode cX9_advance 93 = .ok (.bipush 57, 2) := by decide +kernel
theorem dX9_advance_95 : decode cX9_advance 95 = .ok (.if_icmp .gt 89, 3) := by decide +kernel
theorem dX9_advance_98 : decode cX9_advance 98 = .ok (.aload_n 0, 1) := by decide +kernel
theorem dX9_advance_99 : decode cX9_advance 99 = .ok (.iconst 1, 1) := by decide +kernel
theorem dX9_advance_100 : decode cX9_advance 100 = .ok (.putfield 9, 3) := by decide +kernel
theorem dX9_advance_103 : decode cX9_advance 103 = .ok (.aload_n 0, 1) := by decide +kernel
theorem dX9_advance_104 : decode cX9_advance 104 = .ok (.getfield 26, 3) := by decide +kernel
theorem dX9_advance_107 : decode cX9_advance 107 = .ok (.aload_n 0, 1) := by decide +kernel
theorem dX9_advance_108 : decode cX9_advance 108 = .ok (.getfield 23, 3) := by decide +kernel
theorem dX9_advance_111 : decode cX9_advance 111 = .ok (.if_icmp .ge 186, 3) := by decide +kernel
theorem dX9_advance_114 : decode cX9_advance 114 = .ok (.aload_n 0, 1) := by decide +kernel
theorem dX9_advance_115 : decode cX9_advance 115 = .ok (.getfield 19, 3) := by decide +kernel
theorem dX9_advance_118 : decode cX9_advance 118 = .ok (.aload_n 0, 1) := by decide +kernel
theorem dX9_advance_119 : decode cX9_advance 119 = .ok (.getfield 26, 3) := by decide +kernel
theorem dX9_advance_122 : decode cX9_advance 122 = .ok (.baload, 1) := by decide +kernel
theorem dX9_advance_123 : decode cX9_advance 123 = .ok (.bipush 48, 2) := by decide +kernel
theorem dX9_advance_125 : decode cX9_advance 125 = .ok (.if_icmp .lt 172, 3) := by decide +kernel
theorem dX9_advance_128 : decode cX9_advance 128 = .ok (.aload_n 0, 1) := by decide +kernel
theorem dX9_advance_129 : decode cX9_advance 129 = .ok (.getfield 19, 3) := by decide +kernel
theorem dX9_advance_132 : decode cX9_advance 132 = .ok (.aload_n 0, 1) := by decide +kernel
theorem dX9_advance_133 : decode cX9_advance 133 = .ok (.getfield 26, 3) := by decide +kernel
theorem dX9_advance_136 : decode cX9_advance 136 = .ok (.baload, 1) := by decide +kernel
theorem dX9_advance_137 : decode cX9_advance 137 = .ok (.bipush 57, 2) := by decide +kernel
theorem dX9_advance_139 : decode cX9_advance 139 = .ok (.if_icmp .gt 158, 3) := by decide +kernel
theorem dX9_advance_142 : decode cX9_advance 142 = .ok (.aload_n 0, 1) := by decide +kernel
theorem dX9_advance_143 : decode cX9_advance 143 = .ok (.ldc 38, 2) := by decide +kernel
theorem dX9_advance_145 : decode cX9_advance 145 = .ok (.aload_n 0, 1) := by decide +kernel
theorem dX9_advance_146 : decode cX9_advance 146 = .ok (.getfield 16, 3) := by decide +kernel
theorem dX9_advance_149 : decode cX9_advance 149 = .ok (.bipush 10, 2) := by decide +kernel
theorem dX9_advance_151 : decode cX9_advance 151 = .ok (.imul, 1) := by decide +kernel
theorem dX9_advance_152 : decode cX9_advance 152 = .ok (.aload_n 0, 1) := by decide +kernel
theorem dX9_advance_153 : decode cX9_advance 153 = .ok (.getfield 19, 3) := by decide +kernel
theorem dX9_advance_156 : decode cX9_advance 156 = .ok (.aload_n 0, 1) := by decide +kernel
theorem dX9_advance_157 : decode cX9_advance 157 = .ok (.getfield 26, 3) := by decide +kernel
theorem dX9_advance_160 : decode cX9_advance 160 = .ok (.baload, 1) := by decide +kernel
theorem dX9_advance_161 : decode cX9_advance 161 = .ok (.bipush 48, 2) := by decide +kernel
theorem dX9_advance_163 : decode cX9_advance 163 = .ok (.isub, 1) := by decide +kernel
theorem dX9_advance_164 : decode cX9_advance 164 = .ok (.iadd, 1) := by decide +kernel
theorem dX9_advance_165 : decode cX9_advance 165 = .ok (.invokestatic 29, 3) := by decide +kernel
theorem dX9_advance_168 : decode cX9_advance 168 = .ok (.putfield 16, 3) := by decide +kernel
theorem dX9_advance_171 : decode cX9_advance 171 = .ok (.aload_n 0, 1) := by decide +kernel
theorem dX9_advance_172 : decode cX9_advance 172 = .ok (.dup, 1) := by decide +kernel
theorem dX9_advance_173 : decode cX9_advance 173 = .ok (.getfield 26, 3) := by decide +kernel
theorem dX9_advance_176 : decode cX9_advance 176 = .ok (.iconst 1, 1) := by decide +kernel
theorem dX9_advance_177 : decode cX9_advance 177 = .ok (.iadd, 1) := by decide +kernel
theorem dX9_advance_178 : decode cX9_advance 178 = .ok (.putfield 26, 3) := by decide +kernel
theorem dX9_advance_181 : decode cX9_advance 181 = .ok (.goto (-78), 3) := by decide +kernel
theorem dX9_advance_184 : decode cX9_advance 184 = .ok (.aload_n 0, 1) := by decide +kernel
theorem dX9_advance_185 : decode cX9_advance 185 = .ok (.getfield 19, 3) := by decide +kernel
theorem dX9_advance_188 : decode cX9_advance 188 = .ok (.aload_n 0, 1) := by decide +kernel
theorem dX9_advance_189 : decode cX9_advance 189 = .ok (.getfield 26, 3) := by decide +kernel
theorem dX9_advance_192 : decode cX9_advance 192 = .ok (.baload, 1) := by decide +kernel
theorem dX9_advance_193 : decode cX9_advance 193 = .ok (.bipush 97, 2) := by decide +kernel
theorem dX9_advance_195 : decode cX9_advance 195 = .ok (.if_icmp .lt 74, 3) := by decide +kernel
theorem dX9_advance_198 : decode cX9_advance 198 = .ok (.aload_n 0, 1) := by decide +kernel
theorem dX9_advance_199 : decode cX9_advance 199 = .ok (.getfield 19, 3) := by decide +kernel
theorem dX9_advance_202 : decode cX9_advance 202 = .ok (.aload_n 0, 1) := by decide +kernel
theorem dX9_advance_203 : decode cX9_advance 203 = .ok (.getfield 26, 3) := by decide +kernel
theorem dX9_advance_206 : decode cX9_advance 206 = .ok (.baload, 1) := by decide +kernel
theorem dX9_advance_207 : decode cX9_advance 207 = .ok (.bipush 122, 2) := by decide +kernel
theorem dX9_advance_209 : decode cX9_advance 209 = .ok (.if_icmp .gt 60, 3) := by decide +kernel
theorem dX9_advance_212 : decode cX9_advance 212 = .ok (.aload_n 0, 1) := by decide +kernel
theorem dX9_advance_213 : decode cX9_advance 213 = .ok (.iconst 2, 1) := by decide +kernel
theorem dX9_advance_214 : decode cX9_advance 214 = .ok (.putfield 9, 3) := by decide +kernel
theorem dX9_advance_217 : decode cX9_advance 217 = .ok (.aload_n 0, 1) := by decide +kernel
theorem dX9_advance_218 : decode cX9_advance 218 = .ok (.getfield 26, 3) := by decide +kernel
theorem dX9_advance_221 : decode cX9_advance 221 = .ok (.aload_n 0, 1) := by decide +kernel
theorem dX9_advance_222 : decode cX9_advance 222 = .ok (.getfield 23, 3) := by decide +kernel
theorem dX9_advance_225 : decode cX9_advance 225 = .ok (.if_icmp .ge 72, 3) := by decide +kernel
theorem dX9_advance_228 : decode cX9_advance 228 = .ok (.aload_n 0, 1) := by decide +kernel
theorem dX9_advance_229 : decode cX9_advance 229 = .ok (.getfield 19, 3) := by decide +kernel
theorem dX9_advance_232 : decode cX9_advance 232 = .ok (.aload_n 0, 1) := by decide +kernel
theorem dX9_advance_233 : decode cX9_advance 233 = .ok (.getfield 26, 3) := by decide +kernel
theorem dX9_advance_236 : decode cX9_advance 236 = .ok (.baload, 1) := by decide +kernel
theorem dX9_advance_237 : decode cX9_advance 237 = .ok (.bipush 97, 2) := by decide +kernel
theorem dX9_advance_239 : decode cX9_advance 239 = .ok (.if_icmp .lt 58, 3) := by decide +kernel
theorem dX9_advance_242 : decode cX9_advance 242 = .ok (.aload_n 0, 1) := by decide +kernel
theorem dX9_advance_243 : decode cX9_advance 243 = .ok (.getfield 19, 3) := by decide +kernel
theorem dX9_advance_246 : decode cX9_advance 246 = .ok (.aload_n 0, 1) := by decide +kernel
theorem dX9_advance_247 : decode cX9_advance 247 = .ok (.getfield 26, 3) := by decide +kernel
theorem dX9_advance_250 : decode cX9_advance 250 = .ok (.baload, 1) := by decide +kernel
theorem dX9_advance_251 : decode cX9_advance 251 = .ok (.bipush 122, 2) := by decide +kernel
theorem dX9_advance_253 : decode cX9_advance 253 = .ok (.if_icmp .gt 44, 3) := by decide +kernel
theorem dX9_advance_256 : decode cX9_advance 256 = .ok (.aload_n 0, 1) := by decide +kernel
theorem dX9_advance_257 : decode cX9_advance 257 = .ok (.dup, 1) := by decide +kernel
theorem dX9_advance_258 : decode cX9_advance 258 = .ok (.getfield 26, 3) := by decide +kernel
theorem dX9_advance_261 : decode cX9_advance 261 = .ok (.iconst 1, 1) := by decide +kernel
theorem dX9_advance_262 : decode cX9_advance 262 = .ok (.iadd, 1) := by decide +kernel
theorem dX9_advance_263 : decode cX9_advance 263 = .ok (.putfield 26, 3) := by decide +kernel
theorem dX9_advance_266 : decode cX9_advance 266 = .ok (.goto (-49), 3) := by decide +kernel
theorem dX9_advance_269 : decode cX9_advance 269 = .ok (.aload_n 0, 1) := by decide +kernel
theorem dX9_advance_270 : decode cX9_advance 270 = .ok (.iconst 3, 1) := by decide +kernel
theorem dX9_advance_271 : decode cX9_advance 271 = .ok (.putfield 9, 3) := by decide +kernel
theorem dX9_advance_274 : decode cX9_advance 274 = .ok (.aload_n 0, 1) := by decide +kernel
theorem dX9_advance_275 : decode cX9_advance 275 = .ok (.aload_n 0, 1) := by decide +kernel
theorem dX9_advance_276 : decode cX9_advance 276 = .ok (.getfield 19, 3) := by decide +kernel
theorem dX9_advance_279 : decode cX9_advance 279 = .ok (.aload_n 0, 1) := by decide +kernel
theorem dX9_advance_280 : decode cX9_advance 280 = .ok (.getfield 26, 3) := by decide +kernel
theorem dX9_advance_283 : decode cX9_advance 283 = .ok (.baload, 1) := by decide +kernel
theorem dX9_advance_284 : decode cX9_advance 284 = .ok (.putfield 16, 3) := by decide +kernel
theorem dX9_advance_287 : decode cX9_advance 287 = .ok (.aload_n 0, 1) := by decide +kernel
theorem dX9_advance_288 : decode cX9_advance 288 = .ok (.dup, 1) := by decide +kernel
theorem dX9_advance_289 : decode cX9_advance 289 = .ok (.getfield 26, 3) := by decide +kernel
theorem dX9_advance_292 : decode cX9_advance 292 = .ok (.iconst 1, 1) := by decide +kernel
theorem dX9_advance_293 : decode cX9_advance 293 = .ok (.iadd, 1) := by decide +kernel
theorem dX9_advance_294 : decode cX9_advance 294 = .ok (.putfield 26, 3) := by decide +kernel
theorem dX9_advance_297 : decode cX9_advance 297 = .ok (.return_, 1) := by decide +kernel
theorem dX9_isSign_0 : decode cX9_isSign 0 = .ok (.aload_n 0, 1) := by decide +kernel
theorem dX9_isSign_1 : decode cX9_isSign 1 = .ok (.getfield 9, 3) := by decide +kernel
theorem dX9_isSign_4 : decode cX9_isSign 4 = .ok (.iconst 3, 1) := by decide +kernel
theorem dX9_isSign_5 : decode cX9_isSign 5 = .ok (.if_icmp .ne 15, 3) := by decide +kernel
theorem dX9_isSign_8 : decode cX9_isSign 8 = .ok (.aload_n 0, 1) := by decide +kernel
theorem dX9_isSign_9 : decode cX9_isSign 9 = .ok (.getfield 16, 3) := by decide +kernel
theorem dX9_isSign_12 : decode cX9_isSign 12 = .ok (.iload_n 1, 1) := by decide +kernel
theorem dX9_isSign_13 : decode cX9_isSign 13 = .ok (.if_icmp .ne 7, 3) := by decide +kernel
theorem dX9_isSign_16 : decode cX9_isSign 16 = .ok (.iconst 1, 1) := by decide +kernel
theorem dX9_isSign_17 : decode cX9_isSign 17 = .ok (.goto 4, 3) := by decide +kernel
theorem dX9_isSign_20 : decode cX9_isSign 20 = .ok (.iconst 0, 1) := by decide +kernel
theorem dX9_isSign_21 : decode cX9_isSign 21 = .ok (.ireturn, 1) := by decide +kernel
set_option maxRecDepth 20000 in
theorem ggX9_isWord_J0_length_8abf5 : GoodIn wsX9_isWord wsJ0_length_8abf5 := goodIn_r _ [9, 10, 11, 12, 13, 8, 14, 15, 16] (by decide +kernel) (by decide +kernel)
set_option maxRecDepth 20000 in
theorem gX9_isWord_J0_length_8abf5 : GoodIn wsX9_isWord (wsV RX9 39 RJ0 yJ0_length_8abf5 wsJ0_length_8abf5) := goodIn_app (goodIn_of _ (by decide +kernel)) ggX9_isWord_J0_length_8abf5
set_option maxRecDepth 20000 in
theorem ggX9_isWord_J0_charAt_5068e : GoodIn wsX9_isWord wsJ0_charAt_5068e := goodIn_r _ [20, 10, 21, 22, 23, 8, 24, 15, 16, 25, 26, 27, 28, 29, 30, 31, 32, 33, 34, 35, 36, 37, 38, 39, 40, 41, 42, 43, 44, 45, 46, 47, 48, 49, 50, 51, 52, 53] (by decide +kernel) (by decide +kernel)
set_option maxRecDepth 20000 in
theorem gX9_isWord_J0_charAt_5068e : GoodIn wsX9_isWord (wsV RX9 44 RJ0 yJ0_charAt_5068e wsJ0_charAt_5068e) := goodIn_app (goodIn_of _ (by decide +kernel)) ggX9_isWord_J0_charAt_5068e
theorem dX9_isWord_0 : decode cX9_isWord 0 = .ok (.aload_n 0, 1) := by decide +kernel
theorem dX9_isWord_1 : decode cX9_isWord 1 = .ok (.getfield 9, 3) := by decide +kernel
theorem dX9_isWord_4 : decode cX9_isWord 4 = .ok (.iconst 2, 1) := by decide +kernel
theorem dX9_isWord_5 : decode cX9_isWord 5 = .ok (.if_icmp .ne 19, 3) := by decide +kernel
theorem dX9_isWord_8 : decode cX9_isWord 8 = .ok (.aload_n 0, 1) := by decide +kernel
theorem dX9_isWord_9 : decode cX9_isWord 9 = .ok (.getfield 26, 3) := by decide +kernel
theorem dX9_isWord_12 : decode cX9_isWord 12 = .ok (.aload_n 0, 1) := by decide +kernel
theorem dX9_isWord_13 : decode cX9_isWord 13 = .ok (.getfield 13, 3) := by decide +kernel
theorem dX9_isWord_16 : decode cX9_isWord 16 = .ok (.isub, 1) := by decide +kernel
theorem dX9_isWord_17 : decode cX9_isWord 17 = .ok (.aload_n 1, 1) := by decide +kernel
theorem dX9_isWord_18 : decode cX9_isWord 18 = .ok (.invokevirtual 39, 3) := by decide +kernel
theorem dX9_isWord_21 : decode cX9_isWord 21 = .ok (.if_icmp .eq 5, 3) := by decide +kernel
theorem dX9_isWord_24 : decode cX9_isWord 24 = .ok (.iconst 0, 1) := by decide +kernel
theorem dX9_isWord_25 : decode cX9_isWord 25 = .ok (.ireturn, 1) := by decide +kernel
theorem dX9_isWord_26 : decode cX9_isWord 26 = .ok (.iconst 0, 1) := by decide +kernel
theorem dX9_isWord_27 : decode cX9_isWord 27 = .ok (.istore_n 2, 1) := by decide +kernel
theorem dX9_isWord_28 : decode cX9_isWord 28 = .ok (.iload_n 2, 1) := by decide +kernel
theorem dX9_isWord_29 : decode cX9_isWord 29 = .ok (.aload_n 1, 1) := by decide +kernel
theorem dX9_isWord_30 : decode cX9_isWord 30 = .ok (.invokevirtual 39, 3) := by decide +kernel
theorem dX9_isWord_33 : decode cX9_isWord 33 = .ok (.if_icmp .ge 44, 3) := by decide +kernel
theorem dX9_isWord_36 : decode cX9_isWord 36 = .ok (.aload_n 0, 1) := by decide +kernel
theorem dX9_isWord_37 : decode cX9_isWord 37 = .ok (.getfield 13, 3) := by decide +kernel
theorem dX9_isWord_40 : decode cX9_isWord 40 = .ok (.iload_n 2, 1) := by decide +kernel
theorem dX9_isWord_41 : decode cX9_isWord 41 = .ok (.iadd, 1) := by decide +kernel
theorem dX9_isWord_42 : decode cX9_isWord 42 = .ok (.aload_n 0, 1) := by decide +kernel
theorem dX9_isWord_43 : decode cX9_isWord 43 = .ok (.getfield 19, 3) := by decide +kernel
theorem dX9_isWord_46 : decode cX9_isWord 46 = .ok (.arraylength, 1) := by decide +kernel
theorem dX9_isWord_47 : decode cX9_isWord 47 = .ok (.if_icmp .ge 30, 3) := by decide +kernel
theorem dX9_isWord_50 : decode cX9_isWord 50 = .ok (.aload_n 0, 1) := by decide +kernel
theorem dX9_isWord_51 : decode cX9_isWord 51 = .ok (.getfield 19, 3) := by decide +kernel
theorem dX9_isWord_54 : decode cX9_isWord 54 = .ok (.aload_n 0, 1) := by decide +kernel
theorem dX9_isWord_55 : decode cX9_isWord 55 = .ok (.getfield 13, 3) := by decide +kernel
theorem dX9_isWord_58 : decode cX9_isWord 58 = .ok (.iload_n 2, 1) := by decide +kernel
theorem dX9_isWord_59 : decode cX9_isWord 59 = .ok (.iadd, 1) := by decide +kernel
theorem dX9_isWord_60 : decode cX9_isWord 60 = .ok (.baload, 1) := by decide +kernel
theorem dX9_isWord_61 : decode cX9_isWord 61 = .ok (.aload_n 1, 1) := by decide +kernel
theorem dX9_isWord_62 : decode cX9_isWord 62 = .ok (.iload_n 2, 1) := by decide +kernel
theorem dX9_isWord_63 : decode cX9_isWord 63 = .ok (.invokevirtual 44, 3) := by decide +kernel
theorem dX9_isWord_66 : decode cX9_isWord 66 = .ok (.if_icmp .eq 5, 3) := by decide +kernel
theorem dX9_isWord_69 : decode cX9_isWord 69 = .ok (.iconst 0, 1) := by decide +kernel
theorem dX9_isWord_70 : decode cX9_isWord 70 = .ok (.ireturn, 1) := by decide +kernel
theorem dX9_isWord_71 : decode cX9_isWord 71 = .ok (.iinc 2 1, 3) := by decide +kernel
theorem dX9_isWord_74 : decode cX9_isWord 74 = .ok (.goto (-46), 3) := by decide +kernel
theorem dX9_isWord_77 : decode cX9_isWord 77 = .ok (.iconst 1, 1) := by decide +kernel
theorem dX9_isWord_78 : decode cX9_isWord 78 = .ok (.ireturn, 1) := by decide +kernel
set_option maxRecDepth 20000 in
theorem ggX10_init_X7_init : GoodIn wsX10_init wsX7_init := goodIn_r _ [42, 43, 2, 3, 44, 45, 46, 17, 18, 47, 48, 49, 50, 51, 52, 53, 54, 55, 56, 39, 57, 58, 59, 60, 61, 62, 63, 64, 65, 66, 67, 68, 69, 70, 4, 71, 72, 73, 137, 138, 139, 140, 141, 142, 143, 144, 145, 146, 155, 156, 177, 178, 179, 180, 181, 182] (by decide +kernel) (by decide +kernel)
set_option maxRecDepth 20000 in
theorem gX10_init_X7_init_n22 : GoodIn wsX10_init (wsX7_init) := ggX10_init_X7_init
set_option maxRecDepth 20000 in
theorem ggX10_init_X8_init : GoodIn wsX10_init wsX8_init := goodIn_r _ [75, 76, 2, 3, 62, 77, 39, 78, 79, 80, 81, 82, 83, 84, 147, 148, 149, 150, 151, 152, 153, 154] (by decide +kernel) (by decide +kernel)
set_option maxRecDepth 20000 in
theorem gX10_init_X8_init_n29 : GoodIn wsX10_init (wsX8_init) := ggX10_init_X8_init
set_option maxRecDepth 20000 in
theorem ggX10_init_X0_init : GoodIn wsX10_init wsX0_init := goodIn_r _ [60, 61, 2, 3, 62, 63, 64, 155, 156] (by decide +kernel) (by decide +kernel)
set_option maxRecDepth 20000 in
theorem gX10_init_X0_init_n36 : GoodIn wsX10_init (wsX0_init) := ggX10_init_X0_init
set_option maxRecDepth 20000 in
theorem ggX10_init_X5_init : GoodIn wsX10_init wsX5_init := goodIn_r _ [86, 87, 2, 3, 88, 17, 18, 89, 90, 39, 91, 92, 93, 94, 59, 60, 61, 62, 63, 64, 155, 156, 157, 158, 159, 160, 161, 162] (by decide +kernel) (by decide +kernel)
set_option maxRecDepth 20000 in
theorem gX10_init_X5_init_n43 : GoodIn wsX10_init (wsX5_init) := ggX10_init_X5_init
set_option maxRecDepth 20000 in
theorem ggX10_init_X3_init : GoodIn wsX10_init wsX3_init := goodIn_r _ [96, 97, 2, 3, 98, 99, 100, 101, 39, 102, 163, 164, 165, 166] (by decide +kernel) (by decide +kernel)
set_option maxRecDepth 20000 in
theorem gX10_init_X3_init_n50 : GoodIn wsX10_init (wsX3_init) := ggX10_init_X3_init
set_option maxRecDepth 20000 in
theorem ggX10_init_X2_init : GoodIn wsX10_init wsX2_init := goodIn_r _ [105, 106, 2, 3, 107, 108, 109, 110, 111, 112, 17, 18, 59, 60, 61, 62, 63, 64, 167, 168, 169, 170, 155, 156] (by decide +kernel) (by decide +kernel)
set_option maxRecDepth 20000 in
theorem gX10_init_X2_init : GoodIn wsX10_init (wsX2_init) := ggX10_init_X2_init
set_option maxRecDepth 20000 in
theorem ggX10_init_X1_init : GoodIn wsX10_init wsX1_init := goodIn_r _ [115, 116, 2, 3, 39, 117, 118, 175, 176] (by decide +kernel) (by decide +kernel)
set_option maxRecDepth 20000 in
theorem gX10_init_X1_init : GoodIn wsX10_init (wsX1_init) := ggX10_init_X1_init
set_option maxRecDepth 20000 in
theorem ggX10_init_X6_init : GoodIn wsX10_init wsX6_init := goodIn_r _ [121, 122, 2, 3, 123, 124, 125, 126, 171, 172, 173, 174] (by decide +kernel) (by decide +kernel)
set_option maxRecDepth 20000 in
theorem gX10_init_X6_init : GoodIn wsX10_init (wsX6_init) := ggX10_init_X6_init
theorem dX10_init_0 : decode cX10_init 0 = .ok (.aload_n 0, 1) := by decide +kernel
theorem dX10_init_1 : decode cX10_init 1 = .ok (.invokespecial 1, 3) := by decide +kernel
theorem dX10_init_4 : decode cX10_init 4 = .ok (.aload_n 0, 1) := by decide +kernel
theorem dX10_init_5 : decode cX10_init 5 = .ok (.sipush 600, 3) := by decide +kernel
