set_option maxRecDepth 20000 in
theorem ggX11_factor_X11_isDigit : GoodIn wsX11_factor wsX11_isDigit := goodIn_r _ [33, 34, 35, 6, 36] (by decide +kernel) (by decide +kernel)
set_option maxRecDepth 20000 in
theorem gX11_factor_X11_isDigit : GoodIn wsX11_factor (va_wsS RX11 104 yX11_isDigit wsX11_isDigit) := goodIn_app (goodIn_of _ (by decide +kernel)) ggX11_factor_X11_isDigit
set_option maxRecDepth 20000 in
theorem ggX11_factor_X11_takeWord : GoodIn wsX11_factor wsX11_takeWord := goodIn_r _ [40, 2, 3, 4, 5, 6, 7, 8, 9, 10, 11, 12, 13, 14, 15, 16, 17, 18, 41, 42, 43, 44, 45, 46, 47, 48, 49, 50, 51, 52, 53, 54, 55, 56, 57, 58, 59, 60, 61, 62, 63, 64, 65, 66, 67, 68, 69, 70, 71, 72, 73, 74, 75, 76, 77, 78, 79, 80, 81, 82, 83, 84, 85, 86, 87, 88, 89, 34, 35, 36, 111, 112, 113, 114, 115, 116, 117, 118, 119, 120, 121, 122, 123, 124, 125, 126, 127, 128, 129, 130, 131, 132, 133, 134, 135, 136, 137, 138] (by decide +kernel) (by decide +kernel)
set_option maxRecDepth 20000 in
theorem gX11_factor_X11_takeWord : GoodIn wsX11_factor (wsV RX11 125 RX11 yX11_takeWord wsX11_takeWord) := goodIn_app (goodIn_of _ (by decide +kernel)) ggX11_factor_X11_takeWord
set_option maxRecDepth 20000 in
theorem ggX11_factor_X11_number : GoodIn wsX11_factor wsX11_number := goodIn_r _ [93, 2, 94, 3, 4, 5, 6, 7, 8, 9, 10, 11, 12, 13, 14, 15, 16, 17, 18, 31, 32, 33, 34, 35, 36, 19, 20, 21, 22, 23, 95, 96, 97, 111, 112, 113, 114, 115, 116, 117, 118, 119, 120, 121, 122, 123, 124, 125, 126, 127, 128, 129, 130, 131, 132, 133, 134, 135, 136, 137, 138] (by decide +kernel) (by decide +kernel)
set_option maxRecDepth 20000 in
theorem gX11_factor_X11_number : GoodIn wsX11_factor (wsV RX11 133 RX11 yX11_number wsX11_number) := goodIn_app (goodIn_of _ (by decide +kernel)) ggX11_factor_X11_number
set_option maxRecDepth 20000 in
theorem ggX11_factor_X11_emit : GoodIn wsX11_factor wsX11_emit := goodIn_r _ [101, 102, 3, 4, 5, 6, 7, 8, 111, 112, 113, 114, 115, 116, 117, 118, 119, 120, 121, 122, 123, 124, 125, 126, 127, 128, 129, 130, 131, 132, 133, 134, 135, 136, 137, 138] (by decide +kernel) (by decide +kernel)
set_option maxRecDepth 20000 in
theorem gX11_factor_X11_emit : GoodIn wsX11_factor (wsV RX11 136 RX11 yX11_emit wsX11_emit) := goodIn_app (goodIn_of _ (by decide +kernel)) ggX11_factor_X11_emit
theorem dX11_factor_0 : decode cX11_factor 0 = .ok (.aload_n 0, 1) := by decide +kernel
theorem dX11_factor_1 : decode cX11_factor 1 = .ok (.invokevirtual 83, 3) := by decide +kernel
theorem dX11_factor_4 : decode cX11_factor 4 = .ok (.ifCond .ne 4, 3) := by decide +kernel
theorem dX11_factor_7 : decode cX11_factor 7 = .ok (.return_, 1) := by decide +kernel
theorem dX11_factor_8 : decode cX11_factor 8 = .ok (.aload_n 0, 1) := by decide +kernel
theorem dX11_factor_9 : decode cX11_factor 9 = .ok (.invokevirtual 87, 3) := by decide +kernel
theorem dX11_factor_12 : decode cX11_factor 12 = .ok (.istore_n 1, 1) := by decide +kernel
theorem dX11_factor_13 : decode cX11_factor 13 = .ok (.iload_n 1, 1) := by decide +kernel
theorem dX11_factor_14 : decode cX11_factor 14 = .ok (.bipush 40, 2) := by decide +kernel
theorem dX11_factor_16 : decode cX11_factor 16 = .ok (.if_icmp .ne 62, 3) := by decide +kernel
theorem dX11_factor_19 : decode cX11_factor 19 = .ok (.aload_n 0, 1) := by decide +kernel
theorem dX11_factor_20 : decode cX11_factor 20 = .ok (.getfield 113, 3) := by decide +kernel
theorem dX11_factor_23 : decode cX11_factor 23 = .ok (.iconst 4, 1) := by decide +kernel
theorem dX11_factor_24 : decode cX11_factor 24 = .ok (.if_icmp .ne 13, 3) := by decide +kernel
theorem dX11_factor_27 : decode cX11_factor 27 = .ok (.aload_n 0, 1) := by decide +kernel
theorem dX11_factor_28 : decode cX11_factor 28 = .ok (.bipush (-5), 2) := by decide +kernel
theorem dX11_factor_30 : decode cX11_factor 30 = .ok (.aload_n 0, 1) := by decide +kernel
theorem dX11_factor_31 : decode cX11_factor 31 = .ok (.getfield 66, 3) := by decide +kernel
theorem dX11_factor_34 : decode cX11_factor 34 = .ok (.invokevirtual 100, 3) := by decide +kernel
theorem dX11_factor_37 : decode cX11_factor 37 = .ok (.aload_n 0, 1) := by decide +kernel
theorem dX11_factor_38 : decode cX11_factor 38 = .ok (.dup, 1) := by decide +kernel
theorem dX11_factor_39 : decode cX11_factor 39 = .ok (.getfield 66, 3) := by decide +kernel
theorem dX11_factor_42 : decode cX11_factor 42 = .ok (.iconst 1, 1) := by decide +kernel
theorem dX11_factor_43 : decode cX11_factor 43 = .ok (.iadd, 1) := by decide +kernel
theorem dX11_factor_44 : decode cX11_factor 44 = .ok (.putfield 66, 3) := by decide +kernel
theorem dX11_factor_47 : decode cX11_factor 47 = .ok (.aload_n 0, 1) := by decide +kernel
theorem dX11_factor_48 : decode cX11_factor 48 = .ok (.dup, 1) := by decide +kernel
theorem dX11_factor_49 : decode cX11_factor 49 = .ok (.getfield 113, 3) := by decide +kernel
theorem dX11_factor_52 : decode cX11_factor 52 = .ok (.iconst 1, 1) := by decide +kernel
theorem dX11_factor_53 : decode cX11_factor 53 = .ok (.iadd, 1) := by decide +kernel
theorem dX11_factor_54 : decode cX11_factor 54 = .ok (.putfield 113, 3) := by decide +kernel
theorem dX11_factor_57 : decode cX11_factor 57 = .ok (.aload_n 0, 1) := by decide +kernel
theorem dX11_factor_58 : decode cX11_factor 58 = .ok (.invokevirtual 116, 3) := by decide +kernel
theorem dX11_factor_61 : decode cX11_factor 61 = .ok (.aload_n 0, 1) := by decide +kernel
theorem dX11_factor_62 : decode cX11_factor 62 = .ok (.bipush 41, 2) := by decide +kernel
theorem dX11_factor_64 : decode cX11_factor 64 = .ok (.invokevirtual 119, 3) := by decide +kernel
theorem dX11_factor_67 : decode cX11_factor 67 = .ok (.aload_n 0, 1) := by decide +kernel
theorem dX11_factor_68 : decode cX11_factor 68 = .ok (.dup, 1) := by decide +kernel
theorem dX11_factor_69 : decode cX11_factor 69 = .ok (.getfield 113, 3) := by decide +kernel
theorem dX11_factor_72 : decode cX11_factor 72 = .ok (.iconst 1, 1) := by decide +kernel
theorem dX11_factor_73 : decode cX11_factor 73 = .ok (.isub, 1) := by decide +kernel
theorem dX11_factor_74 : decode cX11_factor 74 = .ok (.putfield 113, 3) := by decide +kernel
theorem dX11_factor_77 : decode cX11_factor 77 = .ok (.return_, 1) := by decide +kernel
theorem dX11_factor_78 : decode cX11_factor 78 = .ok (.iload_n 1, 1) := by decide +kernel
theorem dX11_factor_79 : decode cX11_factor 79 = .ok (.invokestatic 104, 3) := by decide +kernel
theorem dX11_factor_82 : decode cX11_factor 82 = .ok (.ifCond .eq 7, 3) := by decide +kernel
theorem dX11_factor_85 : decode cX11_factor 85 = .ok (.iconst (-1), 1) := by decide +kernel
theorem dX11_factor_86 : decode cX11_factor 86 = .ok (.goto 43, 3) := by decide +kernel
theorem dX11_factor_89 : decode cX11_factor 89 = .ok (.aload_n 0, 1) := by decide +kernel
theorem dX11_factor_90 : decode cX11_factor 90 = .ok (.ldc 123, 2) := by decide +kernel
theorem dX11_factor_92 : decode cX11_factor 92 = .ok (.invokevirtual 125, 3) := by decide +kernel
theorem dX11_factor_95 : decode cX11_factor 95 = .ok (.ifCond .eq 7, 3) := by decide +kernel
theorem dX11_factor_98 : decode cX11_factor 98 = .ok (.iconst 0, 1) := by decide +kernel
theorem dX11_factor_99 : decode cX11_factor 99 = .ok (.goto 30, 3) := by decide +kernel
theorem dX11_factor_102 : decode cX11_factor 102 = .ok (.aload_n 0, 1) := by decide +kernel
theorem dX11_factor_103 : decode cX11_factor 103 = .ok (.ldc 129, 2) := by decide +kernel
theorem dX11_factor_105 : decode cX11_factor 105 = .ok (.invokevirtual 125, 3) := by decide +kernel
theorem dX11_factor_108 : decode cX11_factor 108 = .ok (.ifCond .eq 7, 3) := by decide +kernel
theorem dX11_factor_111 : decode cX11_factor 111 = .ok (.iconst 1, 1) := by decide +kernel
theorem dX11_factor_112 : decode cX11_factor 112 = .ok (.goto 17, 3) := by decide +kernel
theorem dX11_factor_115 : decode cX11_factor 115 = .ok (.aload_n 0, 1) := by decide +kernel
theorem dX11_factor_116 : decode cX11_factor 116 = .ok (.ldc 131, 2) := by decide +kernel
theorem dX11_factor_118 : decode cX11_factor 118 = .ok (.invokevirtual 125, 3) := by decide +kernel
theorem dX11_factor_121 : decode cX11_factor 121 = .ok (.ifCond .eq 7, 3) := by decide +kernel
theorem dX11_factor_124 : decode cX11_factor 124 = .ok (.iconst 2, 1) := by decide +kernel
theorem dX11_factor_125 : decode cX11_factor 125 = .ok (.goto 4, 3) := by decide +kernel
theorem dX11_factor_128 : decode cX11_factor 128 = .ok (.iconst (-1), 1) := by decide +kernel
theorem dX11_factor_129 : decode cX11_factor 129 = .ok (.istore_n 2, 1) := by decide +kernel
theorem dX11_factor_130 : decode cX11_factor 130 = .ok (.iload_n 2, 1) := by decide +kernel
theorem dX11_factor_131 : decode cX11_factor 131 = .ok (.ifCond .ge 14, 3) := by decide +kernel
theorem dX11_factor_134 : decode cX11_factor 134 = .ok (.aload_n 0, 1) := by decide +kernel
theorem dX11_factor_135 : decode cX11_factor 135 = .ok (.iconst 0, 1) := by decide +kernel
theorem dX11_factor_136 : decode cX11_factor 136 = .ok (.sipush 9999, 3) := by decide +kernel
theorem dX11_factor_139 : decode cX11_factor 139 = .ok (.invokevirtual 133, 3) := by decide +kernel
theorem dX11_factor_142 : decode cX11_factor 142 = .ok (.goto 4, 3) := by decide +kernel
theorem dX11_factor_145 : decode cX11_factor 145 = .ok (.iload_n 2, 1) := by decide +kernel
theorem dX11_factor_146 : decode cX11_factor 146 = .ok (.istore_n 3, 1) := by decide +kernel
theorem dX11_factor_147 : decode cX11_factor 147 = .ok (.aload_n 0, 1) := by decide +kernel
theorem dX11_factor_148 : decode cX11_factor 148 = .ok (.iload_n 2, 1) := by decide +kernel
theorem dX11_factor_149 : decode cX11_factor 149 = .ok (.ifCond .ge 7, 3) := by decide +kernel
theorem dX11_factor_152 : decode cX11_factor 152 = .ok (.iconst 0, 1) := by decide +kernel
theorem dX11_factor_153 : decode cX11_factor 153 = .ok (.goto 4, 3) := by decide +kernel
theorem dX11_factor_156 : decode cX11_factor 156 = .ok (.iconst 1, 1) := by decide +kernel
theorem dX11_factor_157 : decode cX11_factor 157 = .ok (.invokevirtual 136, 3) := by decide +kernel
theorem dX11_factor_160 : decode cX11_factor 160 = .ok (.aload_n 0, 1) := by decide +kernel
theorem dX11_factor_161 : decode cX11_factor 161 = .ok (.iload_n 3, 1) := by decide +kernel
theorem dX11_factor_162 : decode cX11_factor 162 = .ok (.invokevirtual 136, 3) := by decide +kernel
theorem dX11_factor_165 : decode cX11_factor 165 = .ok (.return_, 1) := by decide +kernel
set_option maxRecDepth 20000 in
theorem ggX11_term_X11_factor : GoodIn wsX11_term wsX11_factor := goodIn_r _ [26, 27, 1, 6, 7, 8, 5, 9, 10, 11, 12, 13, 14, 15, 16, 17, 18, 19, 20, 28, 29, 30, 31, 32, 33, 34, 35, 36, 37, 38, 39, 40, 41, 42, 43, 44, 45, 46, 47, 48, 49, 50, 51, 52, 53, 54, 55, 56, 57, 58, 59, 60, 61, 62, 63, 64, 65, 66, 67, 68, 69, 70, 71, 72, 73, 74, 75, 76, 77, 78, 79, 80, 81, 82, 83, 84, 85, 86, 87, 88, 89, 90, 91, 92, 93, 94, 95, 96, 97, 98, 99, 100, 101, 102, 103, 104, 105, 106, 21, 22, 23, 24, 25, 107, 108, 109, 110, 0, 2, 3, 4, 111, 112, 113, 114, 115, 116, 117, 118, 119, 120, 121, 122, 123, 124, 125, 126, 127, 128, 129, 130, 131, 132, 133, 134, 135, 136, 137, 138] (by decide +kernel) (by decide +kernel)
set_option maxRecDepth 20000 in
theorem gX11_term_X11_factor : GoodIn wsX11_term (wsV RX11 139 RX11 yX11_factor wsX11_factor) := goodIn_app (goodIn_of _ (by decide +kernel)) ggX11_term_X11_factor
set_option maxRecDepth 20000 in
theorem ggX11_term_X11_isGood : GoodIn wsX11_term wsX11_isGood := goodIn_r _ [9, 10, 111, 112, 113, 114, 115, 116, 117, 118, 119, 120, 121, 122, 123, 124, 125, 126, 127, 128, 129, 130, 131, 132, 133, 134, 135, 136, 137, 138] (by decide +kernel) (by decide +kernel)
set_option maxRecDepth 20000 in
theorem gX11_term_X11_isGood : GoodIn wsX11_term (wsV RX11 83 RX11 yX11_isGood wsX11_isGood) := goodIn_app (goodIn_of _ (by decide +kernel)) ggX11_term_X11_isGood
set_option maxRecDepth 20000 in
theorem ggX11_term_X11_next : GoodIn wsX11_term wsX11_next := goodIn_r _ [14, 1, 15, 16, 17, 5, 18, 19, 20, 111, 112, 113, 114, 115, 116, 117, 118, 119, 120, 121, 122, 123, 124, 125, 126, 127, 128, 129, 130, 131, 132, 133, 134, 135, 136, 137, 138] (by decide +kernel) (by decide +kernel)
set_option maxRecDepth 20000 in
theorem gX11_term_X11_next : GoodIn wsX11_term (wsV RX11 87 RX11 yX11_next wsX11_next) := goodIn_app (goodIn_of _ (by decide +kernel)) ggX11_term_X11_next
set_option maxRecDepth 20000 in
theorem ggX11_term_X11_emit : GoodIn wsX11_term wsX11_emit := goodIn_r _ [24, 25, 6, 7, 8, 5, 9, 10, 111, 112, 113, 114, 115, 116, 117, 118, 119, 120, 121, 122, 123, 124, 125, 126, 127, 128, 129, 130, 131, 132, 133, 134, 135, 136, 137, 138] (by decide +kernel) (by decide +kernel)
set_option maxRecDepth 20000 in
theorem gX11_term_X11_emit : GoodIn wsX11_term (wsV RX11 136 RX11 yX11_emit wsX11_emit) := goodIn_app (goodIn_of _ (by decide +kernel)) ggX11_term_X11_emit
theorem dX11_term_0 : decode cX11_term 0 = .ok (.aload_n 0, 1) := by decide +kernel
theorem dX11_term_1 : decode cX11_term 1 = .ok (.invokevirtual 139, 3) := by decide +kernel
theorem dX11_term_4 : decode cX11_term 4 = .ok (.aload_n 0, 1) := by decide +kernel
theorem dX11_term_5 : decode cX11_term 5 = .ok (.invokevirtual 83, 3) := by decide +kernel
theorem dX11_term_8 : decode cX11_term 8 = .ok (.ifCond .eq 66, 3) := by decide +kernel
theorem dX11_term_11 : decode cX11_term 11 = .ok (.aload_n 0, 1) := by decide +kernel
theorem dX11_term_12 : decode cX11_term 12 = .ok (.invokevirtual 87, 3) := by decide +kernel
theorem dX11_term_15 : decode cX11_term 15 = .ok (.bipush 42, 2) := by decide +kernel
theorem dX11_term_17 : decode cX11_term 17 = .ok (.if_icmp .eq 12, 3) := by decide +kernel
theorem dX11_term_20 : decode cX11_term 20 = .ok (.aload_n 0, 1) := by decide +kernel
theorem dX11_term_21 : decode cX11_term 21 = .ok (.invokevirtual 87, 3) := by decide +kernel
theorem dX11_term_24 : decode cX11_term 24 = .ok (.bipush 47, 2) := by decide +kernel
theorem dX11_term_26 : decode cX11_term 26 = .ok (.if_icmp .ne 48, 3) := by decide +kernel
theorem dX11_term_29 : decode cX11_term 29 = .ok (.aload_n 0, 1) := by decide +kernel
theorem dX11_term_30 : decode cX11_term 30 = .ok (.invokevirtual 87, 3) := by decide +kernel
theorem dX11_term_33 : decode cX11_term 33 = .ok (.bipush 42, 2) := by decide +kernel
theorem dX11_term_35 : decode cX11_term 35 = .ok (.if_icmp .ne 7, 3) := by decide +kernel
theorem dX11_term_38 : decode cX11_term 38 = .ok (.iconst 1, 1) := by decide +kernel
theorem dX11_term_39 : decode cX11_term 39 = .ok (.goto 4, 3) := by decide +kernel
theorem dX11_term_42 : decode cX11_term 42 = .ok (.iconst 0, 1) := by decide +kernel
theorem dX11_term_43 : decode cX11_term 43 = .ok (.istore_n 1, 1) := by decide +kernel
theorem dX11_term_44 : decode cX11_term 44 = .ok (.aload_n 0, 1) := by decide +kernel
theorem dX11_term_45 : decode cX11_term 45 = .ok (.dup, 1) := by decide +kernel
theorem dX11_term_46 : decode cX11_term 46 = .ok (.getfield 66, 3) := by decide +kernel
theorem dX11_term_49 : decode cX11_term 49 = .ok (.iconst 1, 1) := by decide +kernel
theorem dX11_term_50 : decode cX11_term 50 = .ok (.iadd, 1) := by decide +kernel
theorem dX11_term_51 : decode cX11_term 51 = .ok (.putfield 66, 3) := by decide +kernel
theorem dX11_term_54 : decode cX11_term 54 = .ok (.aload_n 0, 1) := by decide +kernel
theorem dX11_term_55 : decode cX11_term 55 = .ok (.invokevirtual 139, 3) := by decide +kernel
theorem dX11_term_58 : decode cX11_term 58 = .ok (.aload_n 0, 1) := by decide +kernel
theorem dX11_term_59 : decode cX11_term 59 = .ok (.iload_n 1, 1) := by decide +kernel
theorem dX11_term_60 : decode cX11_term 60 = .ok (.ifCond .eq 7, 3) := by decide +kernel
theorem dX11_term_63 : decode cX11_term 63 = .ok (.iconst 4, 1) := by decide +kernel
theorem dX11_term_64 : decode cX11_term 64 = .ok (.goto 4, 3) := by decide +kernel
theorem dX11_term_67 : decode cX11_term 67 = .ok (.iconst 5, 1) := by decide +kernel
theorem dX11_term_68 : decode cX11_term 68 = .ok (.invokevirtual 136, 3) := by decide +kernel
theorem dX11_term_71 : decode cX11_term 71 = .ok (.goto (-67), 3) := by decide +kernel
theorem dX11_term_74 : decode cX11_term 74 = .ok (.return_, 1) := by decide +kernel
set_option maxRecDepth 20000 in
theorem ggX11_sum_X11_term : GoodIn wsX11_sum wsX11_term := goodIn_r _ [107, 1, 108, 109, 110, 5, 6, 7, 8, 9, 10, 11, 12, 13, 14, 15, 16, 17, 18, 19, 20, 21, 22, 23, 24, 25, 26, 27, 28, 29, 30, 31, 32, 33, 34, 35, 36, 37, 38, 39, 40, 41, 42, 43, 44, 45, 46, 47, 48, 49, 50, 51, 52, 53, 54, 55, 56, 57, 58, 59, 60, 61, 62, 63, 64, 65, 66, 67, 68, 69, 70, 71, 72, 73, 74, 75, 76, 77, 78, 79, 80, 81, 82, 83, 84, 85, 86, 87, 88, 89, 90, 91, 92, 93, 94, 95, 96, 97, 98, 99, 100, 101, 102, 103, 104, 105, 106, 0, 2, 3, 4, 111, 112, 113, 114, 115, 116, 117, 118, 119, 120, 121, 122, 123, 124, 125, 126, 127, 128, 129, 130, 131, 132, 133, 134, 135, 136, 137, 138] (by decide +kernel) (by decide +kernel)
set_option maxRecDepth 20000 in
theorem gX11_sum_X11_term : GoodIn wsX11_sum (wsV RX11 142 RX11 yX11_term wsX11_term) := goodIn_app (goodIn_of _ (by decide +kernel)) ggX11_sum_X11_term
set_option maxRecDepth 20000 in
theorem ggX11_sum_X11_isGood : GoodIn wsX11_sum wsX11_isGood := goodIn_r _ [9, 10, 111, 112, 113, 114, 115, 116, 117, 118, 119, 120, 121, 122, 123, 124, 125, 126, 127, 128, 129, 130, 131, 132, 133, 134, 135, 136, 137, 138] (by decide +kernel) (by decide +kernel)
set_option maxRecDepth 20000 in
theorem gX11_sum_X11_isGood : GoodIn wsX11_sum (wsV RX11 83 RX11 yX11_isGood wsX11_isGood) := goodIn_app (goodIn_of _ (by decide +kernel)) ggX11_sum_X11_isGood
set_option maxRecDepth 20000 in
theorem ggX11_sum_X11_next : GoodIn wsX11_sum wsX11_next := goodIn_r _ [14, 1, 15, 16, 17, 5, 18, 19, 20, 111, 112, 113, 114, 115, 116, 117, 118, 119, 120, 121, 122, 123, 124, 125, 126, 127, 128, 129, 130, 131, 132, 133, 134, 135, 136, 137, 138] (by decide +kernel) (by decide +kernel)
set_option maxRecDepth 20000 in
theorem gX11_sum_X11_next : GoodIn wsX11_sum (wsV RX11 87 RX11 yX11_next wsX11_next) := goodIn_app (goodIn_of _ (by decide +kernel)) ggX11_sum_X11_next
set_option maxRecDepth 20000 in
theorem ggX11_sum_X11_emit : GoodIn wsX11_sum wsX11_emit := goodIn_r _ [24, 25, 6, 7, 8, 5, 9, 10, 111, 112, 113, 114, 115, 116, 117, 118, 119, 120, 121, 122, 123, 124, 125, 126, 127, 128, 129, 130, 131, 132, 133, 134, 135, 136, 137, 138] (by decide +kernel) (by decide +kernel)
set_option maxRecDepth 20000 in
theorem gX11_sum_X11_emit : GoodIn wsX11_sum (wsV RX11 136 RX11 yX11_emit wsX11_emit) := goodIn_app (goodIn_of _ (by decide +kernel)) ggX11_sum_X11_emit
theorem dX11_sum_0 : decode cX11_sum 0 = .ok (.aload_n 0, 1) := by decide +kernel
theorem dX11_sum_1 : decode cX11_sum 1 = .ok (.invokevirtual 142, 3) := by decide +kernel
theorem dX11_sum_4 : decode cX11_sum 4 = .ok (.aload_n 0, 1) := by decide +kernel
theorem dX11_sum_5 : decode cX11_sum 5 = .ok (.invokevirtual 83, 3) := by decide +kernel
theorem dX11_sum_8 : decode cX11_sum 8 = .ok (.ifCond .eq 66, 3) := by decide +kernel
theorem dX11_sum_11 : decode cX11_sum 11 = .ok (.aload_n 0, 1) := by decide +kernel
theorem dX11_sum_12 : decode cX11_sum 12 = .ok (.invokevirtual 87, 3) := by decide +kernel
theorem dX11_sum_15 : decode cX11_sum 15 = .ok (.bipush 43, 2) := by decide +kernel
theorem dX11_sum_17 : decode cX11_sum 17 = .ok (.if_icmp .eq 12, 3) := by decide +kernel
theorem dX11_sum_20 : decode cX11_sum 20 = .ok (.aload_n 0, 1) := by decide +kernel
theorem dX11_sum_21 : decode cX11_sum 21 = .ok (.invokevirtual 87, 3) := by decide +kernel
theorem dX11_sum_24 : decode cX11_sum 24 = .ok (.bipush 45, 2) := by decide +kernel
theorem dX11_sum_26 : decode cX11_sum 26 = .ok (.if_icmp .ne 48, 3) := by decide +kernel
theorem dX11_sum_29 : decode cX11_sum 29 = .ok (.aload_n 0, 1) := by decide +kernel
theorem dX11_sum_30 : decode cX11_sum 30 = .ok (.invokevirtual 87, 3) := by decide +kernel
theorem dX11_sum_33 : decode cX11_sum 33 = .ok (.bipush 43, 2) := by decide +kernel
theorem dX11_sum_35 : decode cX11_sum 35 = .ok (.if_icmp .ne 7, 3) := by decide +kernel
theorem dX11_sum_38 : decode cX11_sum 38 = .ok (.iconst 1, 1) := by decide +kernel
theorem dX11_sum_39 : decode cX11_sum 39 = .ok (.goto 4, 3) := by decide +kernel
theorem dX11_sum_42 : decode cX11_sum 42 = .ok (.iconst 0, 1) := by decide +kernel
theorem dX11_sum_43 : decode cX11_sum 43 = .ok (.istore_n 1, 1) := by decide +kernel
theorem dX11_sum_44 : decode cX11_sum 44 = .ok (.aload_n 0, 1) := by decide +kernel
theorem dX11_sum_45 : decode cX11_sum 45 = .ok (.dup, 1) := by decide +kernel
theorem dX11_sum_46 : decode cX11_sum 46 = .ok (.getfield 66, 3) := by decide +kernel
theorem dX11_sum_49 : decode cX11_sum 49 = .ok (.iconst 1, 1) := by decide +kernel
theorem dX11_sum_50 : decode cX11_sum 50 = .ok (.iadd, 1) := by decide +kernel
theorem dX11_sum_51 : decode cX11_sum 51 = .ok (.putfield 66, 3) := by decide +kernel
theorem dX11_sum_54 : decode cX11_sum 54 = .ok (.aload_n 0, 1) := by decide +kernel
theorem dX11_sum_55 : decode cX11_sum 55 = .ok (.invokevirtual 142, 3) := by decide +kernel
theorem dX11_sum_58 : decode cX11_sum 58 = .ok (.aload_n 0, 1) := by decide +kernel
theorem dX11_sum_59 : decode cX11_sum 59 = .ok (.iload_n 1, 1) := by decide +kernel
theorem dX11_sum_60 : decode cX11_sum 60 = .ok (.ifCond .eq 7, 3) := by decide +kernel
theorem dX11_sum_63 : decode cX11_sum 63 = .ok (.iconst 2, 1) := by decide +kernel
theorem dX11_sum_64 : decode cX11_sum 64 = .ok (.goto 4, 3) := by decide +kernel
theorem dX11_sum_67 : decode cX11_sum 67 = .ok (.iconst 3, 1) := by decide +kernel
theorem dX11_sum_68 : decode cX11_sum 68 = .ok (.invokevirtual 136, 3) := by decide +kernel
theorem dX11_sum_71 : decode cX11_sum 71 = .ok (.goto (-67), 3) := by decide +kernel
theorem dX11_sum_74 : decode cX11_sum 74 = .ok (.return_, 1) := by decide +kernel
set_option maxRecDepth 20000 in
theorem ggX11_once_X11_report : GoodIn wsX11_once wsX11_report := goodIn_r _ [6, 7, 8, 9, 10, 11, 12, 13, 14, 15, 16, 17, 18, 19, 20, 21, 22, 23, 24, 25, 26, 27, 28, 29, 30, 31, 32, 33, 34, 35, 36] (by decide +kernel) (by decide +kernel)
set_option maxRecDepth 20000 in
theorem gX11_once_X11_report : GoodIn wsX11_once (wsV RX11 100 RX11 yX11_report wsX11_report) := goodIn_app (goodIn_of _ (by decide +kernel)) ggX11_once_X11_report
theorem dX11_once_0 : decode cX11_once 0 = .ok (.aload_n 0, 1) := by decide +kernel
theorem dX11_once_1 : decode cX11_once 1 = .ok (.getfield 145, 3) := by decide +kernel
theorem dX11_once_4 : decode cX11_once 4 = .ok (.iload_n 1, 1) := by decide +kernel
theorem dX11_once_5 : decode cX11_once 5 = .ok (.ishr, 1) := by decide +kernel
theorem dX11_once_6 : decode cX11_once 6 = .ok (.iconst 1, 1) := by decide +kernel
theorem dX11_once_7 : decode cX11_once 7 = .ok (.iand, 1) := by decide +kernel
theorem dX11_once_8 : decode cX11_once 8 = .ok (.iconst 1, 1) := by decide +kernel
theorem dX11_once_9 : decode cX11_once 9 = .ok (.if_icmp .ne 10, 3) := by decide +kernel
theorem dX11_once_12 : decode cX11_once 12 = .ok (.aload_n 0, 1) := by decide +kernel
theorem dX11_once_13 : decode cX11_once 13 = .ok (.bipush (-2), 2) := by decide +kernel
theorem dX11_once_15 : decode cX11_once 15 = .ok (.iload_n 2, 1) := by decide +kernel
theorem dX11_once_16 : decode cX11_once 16 = .ok (.invokevirtual 100, 3) := by decide +kernel
theorem dX11_once_19 : decode cX11_once 19 = .ok (.aload_n 0, 1) := by decide +kernel
theorem dX11_once_20 : decode cX11_once 20 = .ok (.dup, 1) := by decide +kernel
theorem dX11_once_21 : decode cX11_once 21 = .ok (.getfield 145, 3) := by decide +kernel
theorem dX11_once_24 : decode cX11_once 24 = .ok (.iconst 1, 1) := by decide +kernel
theorem dX11_once_25 : decode cX11_once 25 = .ok (.iload_n 1, 1) := by decide +kernel
theorem dX11_once_26 : decode cX11_once 26 = .ok (.ishl, 1) := by decide +kernel
theorem dX11_once_27 : decode cX11_once 27 = .ok (.ior, 1) := by decide +kernel
theorem dX11_once_28 : decode cX11_once 28 = .ok (.putfield 145, 3) := by decide +kernel
theorem dX11_once_31 : decode cX11_once 31 = .ok (.return_, 1) := by decide +kernel
set_option maxRecDepth 20000 in
theorem ggX11_readRule_X11_report : GoodIn wsX11_readRule wsX11_report := goodIn_r _ [7, 8, 9, 94, 95, 96, 97, 98, 99, 100, 101, 102, 103, 104, 105, 106, 107, 108, 109, 110, 111, 112, 113, 114, 115, 116, 117, 118, 119, 120, 121] (by decide +kernel) (by decide +kernel)
set_option maxRecDepth 20000 in
theorem gX11_readRule_X11_report : GoodIn wsX11_readRule (wsV RX11 100 RX11 yX11_report wsX11_report) := goodIn_app (goodIn_of _ (by decide +kernel)) ggX11_readRule_X11_report
set_option maxRecDepth 20000 in
theorem ggX11_readRule_X11_min : GoodIn wsX11_readRule wsX11_min := goodIn_r _ [12] (by decide +kernel) (by decide +kernel)
set_option maxRecDepth 20000 in
theorem gX11_readRule_X11_min : GoodIn wsX11_readRule (va_wsS RX11 109 yX11_min wsX11_min) := goodIn_app (goodIn_of _ (by decide +kernel)) ggX11_readRule_X11_min
set_option maxRecDepth 20000 in
theorem ggX11_readRule_X11_rule : GoodIn wsX11_readRule wsX11_rule := goodIn_r _ [15] (by decide +kernel) (by decide +kernel)
set_option maxRecDepth 20000 in
theorem gX11_readRule_X11_rule : GoodIn wsX11_readRule (va_wsS RX11 148 yX11_rule wsX11_rule) := goodIn_app (goodIn_of _ (by decide +kernel)) ggX11_readRule_X11_rule
set_option maxRecDepth 20000 in
theorem ggX11_readRule_X11_isGood : GoodIn wsX11_readRule wsX11_isGood := goodIn_r _ [19, 8, 94, 95, 96, 97, 98, 99, 100, 101, 102, 103, 104, 105, 106, 107, 108, 109, 110, 111, 112, 113, 114, 115, 116, 117, 118, 119, 120, 121] (by decide +kernel) (by decide +kernel)
set_option maxRecDepth 20000 in
theorem gX11_readRule_X11_isGood : GoodIn wsX11_readRule (wsV RX11 83 RX11 yX11_isGood wsX11_isGood) := goodIn_app (goodIn_of _ (by decide +kernel)) ggX11_readRule_X11_isGood
set_option maxRecDepth 20000 in
theorem ggX11_readRule_X11_number : GoodIn wsX11_readRule wsX11_number := goodIn_r _ [23, 2, 24, 16, 17, 18, 6, 19, 8, 25, 26, 27, 28, 29, 30, 31, 32, 33, 34, 35, 36, 37, 38, 39, 40, 3, 4, 5, 7, 9, 10, 11, 12, 94, 95, 96, 97, 98, 99, 100, 101, 102, 103, 104, 105, 106, 107, 108, 109, 110, 111, 112, 113, 114, 115, 116, 117, 118, 119, 120, 121] (by decide +kernel) (by decide +kernel)
set_option maxRecDepth 20000 in
theorem gX11_readRule_X11_number : GoodIn wsX11_readRule (wsV RX11 133 RX11 yX11_number wsX11_number) := goodIn_app (goodIn_of _ (by decide +kernel)) ggX11_readRule_X11_number
set_option maxRecDepth 20000 in
theorem ggX11_readRule_X11_next : GoodIn wsX11_readRule wsX11_next := goodIn_r _ [28, 2, 29, 30, 31, 6, 32, 33, 34, 94, 95, 96, 97, 98, 99, 100, 101, 102, 103, 104, 105, 106, 107, 108, 109, 110, 111, 112, 113, 114, 115, 116, 117, 118, 119, 120, 121] (by decide +kernel) (by decide +kernel)
set_option maxRecDepth 20000 in
theorem gX11_readRule_X11_next : GoodIn wsX11_readRule (wsV RX11 87 RX11 yX11_next wsX11_next) := goodIn_app (goodIn_of _ (by decide +kernel)) ggX11_readRule_X11_next
set_option maxRecDepth 20000 in
theorem ggX11_readRule_X11_takeWord : GoodIn wsX11_readRule wsX11_takeWord := goodIn_r _ [44, 2, 16, 17, 18, 6, 19, 8, 25, 26, 27, 28, 29, 30, 31, 32, 33, 34, 45, 46, 47, 48, 49, 50, 51, 52, 53, 54, 55, 56, 57, 58, 59, 60, 61, 62, 63, 64, 65, 66, 67, 68, 69, 70, 71, 72, 73, 74, 75, 76, 77, 78, 79, 80, 81, 82, 83, 84, 85, 86, 87, 88, 89, 90, 91, 92, 93, 38, 39, 40, 94, 95, 96, 97, 98, 99, 100, 101, 102, 103, 104, 105, 106, 107, 108, 109, 110, 111, 112, 113, 114, 115, 116, 117, 118, 119, 120, 121] (by decide +kernel) (by decide +kernel)
set_option maxRecDepth 20000 in
theorem gX11_readRule_X11_takeWord : GoodIn wsX11_readRule (wsV RX11 125 RX11 yX11_takeWord wsX11_takeWord) := goodIn_app (goodIn_of _ (by decide +kernel)) ggX11_readRule_X11_takeWord
theorem dX11_readRule_0 : decode cX11_readRule 0 = .ok (.aload_n 0, 1) := by decide +kernel
theorem dX11_readRule_1 : decode cX11_readRule 1 = .ok (.getfield 20, 3) := by decide +kernel
theorem dX11_readRule_4 : decode cX11_readRule 4 = .ok (.iconst 2, 1) := by decide +kernel
theorem dX11_readRule_5 : decode cX11_readRule 5 = .ok (.iaload, 1) := by decide +kernel
theorem dX11_readRule_6 : decode cX11_readRule 6 = .ok (.iconst 4, 1) := by decide +kernel
theorem dX11_readRule_7 : decode cX11_readRule 7 = .ok (.if_icmp .ne 10, 3) := by decide +kernel
theorem dX11_readRule_10 : decode cX11_readRule 10 = .ok (.aload_n 0, 1) := by decide +kernel
theorem dX11_readRule_11 : decode cX11_readRule 11 = .ok (.bipush (-4), 2) := by decide +kernel
theorem dX11_readRule_13 : decode cX11_readRule 13 = .ok (.iload_n 1, 1) := by decide +kernel
theorem dX11_readRule_14 : decode cX11_readRule 14 = .ok (.invokevirtual 100, 3) := by decide +kernel
theorem dX11_readRule_17 : decode cX11_readRule 17 = .ok (.aload_n 0, 1) := by decide +kernel
theorem dX11_readRule_18 : decode cX11_readRule 18 = .ok (.getfield 20, 3) := by decide +kernel
theorem dX11_readRule_21 : decode cX11_readRule 21 = .ok (.iconst 2, 1) := by decide +kernel
theorem dX11_readRule_22 : decode cX11_readRule 22 = .ok (.iaload, 1) := by decide +kernel
theorem dX11_readRule_23 : decode cX11_readRule 23 = .ok (.iconst 3, 1) := by decide +kernel
theorem dX11_readRule_24 : decode cX11_readRule 24 = .ok (.invokestatic 109, 3) := by decide +kernel
theorem dX11_readRule_27 : decode cX11_readRule 27 = .ok (.invokestatic 148, 3) := by decide +kernel
theorem dX11_readRule_30 : decode cX11_readRule 30 = .ok (.istore_n 3, 1) := by decide +kernel
theorem dX11_readRule_31 : decode cX11_readRule 31 = .ok (.aload_n 0, 1) := by decide +kernel
theorem dX11_readRule_32 : decode cX11_readRule 32 = .ok (.invokevirtual 83, 3) := by decide +kernel
theorem dX11_readRule_35 : decode cX11_readRule 35 = .ok (.ifCond .ne 4, 3) := by decide +kernel
theorem dX11_readRule_38 : decode cX11_readRule 38 = .ok (.return_, 1) := by decide +kernel
theorem dX11_readRule_39 : decode cX11_readRule 39 = .ok (.iload_n 2, 1) := by decide +kernel
theorem dX11_readRule_40 : decode cX11_readRule 40 = .ok (.ifCond .eq 129, 3) := by decide +kernel
theorem dX11_readRule_43 : decode cX11_readRule 43 = .ok (.iconst 0, 1) := by decide +kernel
theorem dX11_readRule_44 : decode cX11_readRule 44 = .ok (.istore 4, 2) := by decide +kernel
theorem dX11_readRule_46 : decode cX11_readRule 46 = .ok (.iload 4, 2) := by decide +kernel
theorem dX11_readRule_48 : decode cX11_readRule 48 = .ok (.iconst 3, 1) := by decide +kernel
theorem dX11_readRule_49 : decode cX11_readRule 49 = .ok (.if_icmp .ge 27, 3) := by decide +kernel
theorem dX11_readRule_52 : decode cX11_readRule 52 = .ok (.aload_n 0, 1) := by decide +kernel
theorem dX11_readRule_53 : decode cX11_readRule 53 = .ok (.getfield 20, 3) := by decide +kernel
theorem dX11_readRule_56 : decode cX11_readRule 56 = .ok (.iload_n 3, 1) := by decide +kernel
theorem dX11_readRule_57 : decode cX11_readRule 57 = .ok (.iconst 1, 1) := by decide +kernel
theorem dX11_readRule_58 : decode cX11_readRule 58 = .ok (.iadd, 1) := by decide +kernel
theorem dX11_readRule_59 : decode cX11_readRule 59 = .ok (.iload 4, 2) := by decide +kernel
theorem dX11_readRule_61 : decode cX11_readRule 61 = .ok (.iadd, 1) := by decide +kernel
theorem dX11_readRule_62 : decode cX11_readRule 62 = .ok (.aload_n 0, 1) := by decide +kernel
theorem dX11_readRule_63 : decode cX11_readRule 63 = .ok (.iconst 1, 1) := by decide +kernel
theorem dX11_readRule_64 : decode cX11_readRule 64 = .ok (.bipush 9, 2) := by decide +kernel
theorem dX11_readRule_66 : decode cX11_readRule 66 = .ok (.invokevirtual 133, 3) := by decide +kernel
theorem dX11_readRule_69 : decode cX11_readRule 69 = .ok (.iastore, 1) := by decide +kernel
theorem dX11_readRule_70 : decode cX11_readRule 70 = .ok (.iinc 4 1, 3) := by decide +kernel
theorem dX11_readRule_73 : decode cX11_readRule 73 = .ok (.goto (-27), 3) := by decide +kernel
theorem dX11_readRule_76 : decode cX11_readRule 76 = .ok (.aload_n 0, 1) := by decide +kernel
theorem dX11_readRule_77 : decode cX11_readRule 77 = .ok (.invokevirtual 83, 3) := by decide +kernel
theorem dX11_readRule_80 : decode cX11_readRule 80 = .ok (.ifCond .eq 16, 3) := by decide +kernel
theorem dX11_readRule_83 : decode cX11_readRule 83 = .ok (.aload_n 0, 1) := by decide +kernel
theorem dX11_readRule_84 : decode cX11_readRule 84 = .ok (.invokevirtual 87, 3) := by decide +kernel
theorem dX11_readRule_87 : decode cX11_readRule 87 = .ok (.bipush 45, 2) := by decide +kernel
theorem dX11_readRule_89 : decode cX11_readRule 89 = .ok (.if_icmp .ne 7, 3) := by decide +kernel
theorem dX11_readRule_92 : decode cX11_readRule 92 = .ok (.iconst 1, 1) := by decide +kernel
theorem dX11_readRule_93 : decode cX11_readRule 93 = .ok (.goto 4, 3) := by decide +kernel
theorem dX11_readRule_96 : decode cX11_readRule 96 = .ok (.iconst 0, 1) := by decide +kernel
theorem dX11_readRule_97 : decode cX11_readRule 97 = .ok (.istore 4, 2) := by decide +kernel
theorem dX11_readRule_99 : decode cX11_readRule 99 = .ok (.iload 4, 2) := by decide +kernel
theorem dX11_readRule_101 : decode cX11_readRule 101 = .ok (.ifCond .eq 13, 3) := by decide +kernel
theorem dX11_readRule_104 : decode cX11_readRule 104 = .ok (.aload_n 0, 1) := by decide +kernel
theorem dX11_readRule_105 : decode cX11_readRule 105 = .ok (.dup, 1) := by decide +kernel
theorem dX11_readRule_106 : decode cX11_readRule 106 = .ok (.getfield 66, 3) := by decide +kernel
theorem dX11_readRule_109 : decode cX11_readRule 109 = .ok (.iconst 1, 1) := by decide +kernel
theorem dX11_readRule_110 : decode cX11_readRule 110 = .ok (.iadd, 1) := by decide +kernel
theorem dX11_readRule_111 : decode cX11_readRule 111 = .ok (.putfield 66, 3) := by decide +kernel
theorem dX11_readRule_114 : decode cX11_readRule 114 = .ok (.aload_n 0, 1) := by decide +kernel
theorem dX11_readRule_115 : decode cX11_readRule 115 = .ok (.iconst 0, 1) := by decide +kernel
theorem dX11_readRule_116 : decode cX11_readRule 116 = .ok (.bipush 99, 2) := by decide +kernel
theorem dX11_readRule_118 : decode cX11_readRule 118 = .ok (.invokevirtual 133, 3) := by decide +kernel
theorem dX11_readRule_121 : decode cX11_readRule 121 = .ok (.istore 5, 2) := by decide +kernel
theorem dX11_readRule_123 : decode cX11_readRule 123 = .ok (.aload_n 0, 1) := by decide +kernel
theorem dX11_readRule_124 : decode cX11_readRule 124 = .ok (.getfield 20, 3) := by decide +kernel
theorem dX11_readRule_127 : decode cX11_readRule 127 = .ok (.iload_n 3, 1) := by decide +kernel
theorem dX11_readRule_128 : decode cX11_readRule 128 = .ok (.iconst 4, 1) := by decide +kernel
theorem dX11_readRule_129 : decode cX11_readRule 129 = .ok (.iadd, 1) := by decide +kernel
theorem dX11_readRule_130 : decode cX11_readRule 130 = .ok (.iload 4, 2) := by decide +kernel
theorem dX11_readRule_132 : decode cX11_readRule 132 = .ok (.ifCond .eq 9, 3) := by decide +kernel
theorem dX11_readRule_135 : decode cX11_readRule 135 = .ok (.iload 5, 2) := by decide +kernel
theorem dX11_readRule_137 : decode cX11_readRule 137 = .ok (.ineg, 1) := by decide +kernel
theorem dX11_readRule_138 : decode cX11_readRule 138 = .ok (.goto 5, 3) := by decide +kernel
theorem dX11_readRule_141 : decode cX11_readRule 141 = .ok (.iload 5, 2) := by decide +kernel
theorem dX11_readRule_143 : decode cX11_readRule 143 = .ok (.iastore, 1) := by decide +kernel
theorem dX11_readRule_144 : decode cX11_readRule 144 = .ok (.aload_n 0, 1) := by decide +kernel
theorem dX11_readRule_145 : decode cX11_readRule 145 = .ok (.getfield 20, 3) := by decide +kernel
theorem dX11_readRule_148 : decode cX11_readRule 148 = .ok (.iload_n 3, 1) := by decide +kernel
theorem dX11_readRule_149 : decode cX11_readRule 149 = .ok (.iconst 5, 1) := by decide +kernel
theorem dX11_readRule_150 : decode cX11_readRule 150 = .ok (.iadd, 1) := by decide +kernel
theorem dX11_readRule_151 : decode cX11_readRule 151 = .ok (.aload_n 0, 1) := by decide +kernel
theorem dX11_readRule_152 : decode cX11_readRule 152 = .ok (.ldc 150, 2) := by decide +kernel
theorem dX11_readRule_154 : decode cX11_readRule 154 = .ok (.invokevirtual 125, 3) := by decide +kernel
theorem dX11_readRule_157 : decode cX11_readRule 157 = .ok (.ifCond .eq 7, 3) := by decide +kernel
theorem dX11_readRule_160 : decode cX11_readRule 160 = .ok (.iconst 1, 1) := by decide +kernel
theorem dX11_readRule_161 : decode cX11_readRule 161 = .ok (.goto 4, 3) := by decide +kernel
theorem dX11_readRule_164 : decode cX11_readRule 164 = .ok (.iconst 0, 1) := by decide +kernel
theorem dX11_readRule_165 : decode cX11_readRule 165 = .ok (.iastore, 1) := by decide +kernel
theorem dX11_readRule_166 : decode cX11_readRule 166 = .ok (.goto 16, 3) := by decide +kernel
theorem dX11_readRule_169 : decode cX11_readRule 169 = .ok (.aload_n 0, 1) := by decide +kernel
theorem dX11_readRule_170 : decode cX11_readRule 170 = .ok (.getfield 20, 3) := by decide +kernel
theorem dX11_readRule_173 : decode cX11_readRule 173 = .ok (.iload_n 3, 1) := by decide +kernel
theorem dX11_readRule_174 : decode cX11_readRule 174 = .ok (.aload_n 0, 1) := by decide +kernel
theorem dX11_readRule_175 : decode cX11_readRule 175 = .ok (.iconst 3, 1) := by decide +kernel
theorem dX11_readRule_176 : decode cX11_readRule 176 = .ok (.bipush 6, 2) := by decide +kernel
theorem dX11_readRule_178 : decode cX11_readRule 178 = .ok (.invokevirtual 133, 3) := by decide +kernel
theorem dX11_readRule_181 : decode cX11_readRule 181 = .ok (.iastore, 1) := by decide +kernel
theorem dX11_readRule_182 : decode cX11_readRule 182 = .ok (.aload_n 0, 1) := by decide +kernel
theorem dX11_readRule_183 : decode cX11_readRule 183 = .ok (.getfield 20, 3) := by decide +kernel
theorem dX11_readRule_186 : decode cX11_readRule 186 = .ok (.iconst 2, 1) := by decide +kernel
theorem dX11_readRule_187 : decode cX11_readRule 187 = .ok (.dup2, 1) := by decide +kernel
theorem dX11_readRule_188 : decode cX11_readRule 188 = .ok (.iaload, 1) := by decide +kernel
theorem dX11_readRule_189 : decode cX11_readRule 189 = .ok (.iconst 1, 1) := by decide +kernel
theorem dX11_readRule_190 : decode cX11_readRule 190 = .ok (.iadd, 1) := by decide +kernel
theorem dX11_readRule_191 : decode cX11_readRule 191 = .ok (.iastore, 1) := by decide +kernel
theorem dX11_readRule_192 : decode cX11_readRule 192 = .ok (.return_, 1) := by decide +kernel
set_option maxRecDepth 20000 in
theorem ggX11_readColour_X11_number : GoodIn wsX11_readColour wsX11_number := goodIn_r _ [6, 7, 8, 9, 10, 11, 5, 12, 13, 14, 15, 16, 17, 18, 19, 20, 21, 22, 23, 24, 25, 26, 27, 28, 29, 30, 31, 32, 33, 34, 35, 36, 37, 91, 92, 93, 94, 95, 96, 97, 98, 99, 100, 101, 102, 103, 104, 105, 106, 107, 108, 109, 110, 111, 112, 113, 114, 115, 116, 117, 118] (by decide +kernel) (by decide +kernel)
set_option maxRecDepth 20000 in
theorem gX11_readColour_X11_number : GoodIn wsX11_readColour (wsV RX11 133 RX11 yX11_number wsX11_number) := goodIn_app (goodIn_of _ (by decide +kernel)) ggX11_readColour_X11_number
set_option maxRecDepth 20000 in
theorem ggX11_readColour_X11_isGood : GoodIn wsX11_readColour wsX11_isGood := goodIn_r _ [12, 13, 91, 92, 93, 94, 95, 96, 97, 98, 99, 100, 101, 102, 103, 104, 105, 106, 107, 108, 109, 110, 111, 112, 113, 114, 115, 116, 117, 118] (by decide +kernel) (by decide +kernel)
set_option maxRecDepth 20000 in
theorem gX11_readColour_X11_isGood : GoodIn wsX11_readColour (wsV RX11 83 RX11 yX11_isGood wsX11_isGood) := goodIn_app (goodIn_of _ (by decide +kernel)) ggX11_readColour_X11_isGood
set_option maxRecDepth 20000 in
theorem ggX11_readColour_X11_takeWord : GoodIn wsX11_readColour wsX11_takeWord := goodIn_r _ [41, 7, 9, 10, 11, 5, 12, 13, 14, 15, 16, 17, 18, 19, 20, 21, 22, 23, 42, 43, 44, 45, 46, 47, 48, 49, 50, 51, 52, 53, 54, 55, 56, 57, 58, 59, 60, 61, 62, 63, 64, 65, 66, 67, 68, 69, 70, 71, 72, 73, 74, 75, 76, 77, 78, 79, 80, 81, 82, 83, 84, 85, 86, 87, 88, 89, 90, 27, 28, 29, 91, 92, 93, 94, 95, 96, 97, 98, 99, 100, 101, 102, 103, 104, 105, 106, 107, 108, 109, 110, 111, 112, 113, 114, 115, 116, 117, 118] (by decide +kernel) (by decide +kernel)
set_option maxRecDepth 20000 in
theorem gX11_readColour_X11_takeWord : GoodIn wsX11_readColour (wsV RX11 125 RX11 yX11_takeWord wsX11_takeWord) := goodIn_app (goodIn_of _ (by decide +kernel)) ggX11_readColour_X11_takeWord
theorem dX11_readColour_0 : decode cX11_readColour 0 = .ok (.aload_n 0, 1) := by decide +kernel
theorem dX11_readColour_1 : decode cX11_readColour 1 = .ok (.iconst 1, 1) := by decide +kernel
theorem dX11_readColour_2 : decode cX11_readColour 2 = .ok (.aload_n 0, 1) := by decide +kernel
theorem dX11_readColour_3 : decode cX11_readColour 3 = .ok (.getfield 20, 3) := by decide +kernel
theorem dX11_readColour_6 : decode cX11_readColour 6 = .ok (.iconst 0, 1) := by decide +kernel
theorem dX11_readColour_7 : decode cX11_readColour 7 = .ok (.iaload, 1) := by decide +kernel
theorem dX11_readColour_8 : decode cX11_readColour 8 = .ok (.invokevirtual 133, 3) := by decide +kernel
theorem dX11_readColour_11 : decode cX11_readColour 11 = .ok (.istore_n 1, 1) := by decide +kernel
theorem dX11_readColour_12 : decode cX11_readColour 12 = .ok (.aload_n 0, 1) := by decide +kernel
theorem dX11_readColour_13 : decode cX11_readColour 13 = .ok (.iconst 0, 1) := by decide +kernel
theorem dX11_readColour_14 : decode cX11_readColour 14 = .ok (.aload_n 0, 1) := by decide +kernel
theorem dX11_readColour_15 : decode cX11_readColour 15 = .ok (.getfield 20, 3) := by decide +kernel
theorem dX11_readColour_18 : decode cX11_readColour 18 = .ok (.iconst 1, 1) := by decide +kernel
theorem dX11_readColour_19 : decode cX11_readColour 19 = .ok (.iaload, 1) := by decide +kernel
theorem dX11_readColour_20 : decode cX11_readColour 20 = .ok (.iconst 1, 1) := by decide +kernel
theorem dX11_readColour_21 : decode cX11_readColour 21 = .ok (.isub, 1) := by decide +kernel
theorem dX11_readColour_22 : decode cX11_readColour 22 = .ok (.invokevirtual 133, 3) := by decide +kernel
theorem dX11_readColour_25 : decode cX11_readColour 25 = .ok (.istore_n 2, 1) := by decide +kernel
theorem dX11_readColour_26 : decode cX11_readColour 26 = .ok (.aload_n 0, 1) := by decide +kernel
theorem dX11_readColour_27 : decode cX11_readColour 27 = .ok (.invokevirtual 83, 3) := by decide +kernel
theorem dX11_readColour_30 : decode cX11_readColour 30 = .ok (.ifCond .ne 4, 3) := by decide +kernel
theorem dX11_readColour_33 : decode cX11_readColour 33 = .ok (.return_, 1) := by decide +kernel
theorem dX11_readColour_34 : decode cX11_readColour 34 = .ok (.aload_n 0, 1) := by decide +kernel
theorem dX11_readColour_35 : decode cX11_readColour 35 = .ok (.getfield 20, 3) := by decide +kernel
theorem dX11_readColour_38 : decode cX11_readColour 38 = .ok (.bipush 29, 2) := by decide +kernel
theorem dX11_readColour_40 : decode cX11_readColour 40 = .ok (.iload_n 1, 1) := by decide +kernel
theorem dX11_readColour_41 : decode cX11_readColour 41 = .ok (.iadd, 1) := by decide +kernel
theorem dX11_readColour_42 : decode cX11_readColour 42 = .ok (.iload_n 2, 1) := by decide +kernel
theorem dX11_readColour_43 : decode cX11_readColour 43 = .ok (.iconst 1, 1) := by decide +kernel
theorem dX11_readColour_44 : decode cX11_readColour 44 = .ok (.iadd, 1) := by decide +kernel
theorem dX11_readColour_45 : decode cX11_readColour 45 = .ok (.iastore, 1) := by decide +kernel
theorem dX11_readColour_46 : decode cX11_readColour 46 = .ok (.aload_n 0, 1) := by decide +kernel
theorem dX11_readColour_47 : decode cX11_readColour 47 = .ok (.getfield 20, 3) := by decide +kernel
theorem dX11_readColour_50 : decode cX11_readColour 50 = .ok (.bipush 70, 2) := by decide +kernel
theorem dX11_readColour_52 : decode cX11_readColour 52 = .ok (.iload_n 1, 1) := by decide +kernel
theorem dX11_readColour_53 : decode cX11_readColour 53 = .ok (.iadd, 1) := by decide +kernel
theorem dX11_readColour_54 : decode cX11_readColour 54 = .ok (.aload_n 0, 1) := by decide +kernel
theorem dX11_readColour_55 : decode cX11_readColour 55 = .ok (.ldc 152, 2) := by decide +kernel
theorem dX11_readColour_57 : decode cX11_readColour 57 = .ok (.invokevirtual 125, 3) := by decide +kernel
theorem dX11_readColour_60 : decode cX11_readColour 60 = .ok (.ifCond .eq 7, 3) := by decide +kernel
theorem dX11_readColour_63 : decode cX11_readColour 63 = .ok (.iconst 1, 1) := by decide +kernel
theorem dX11_readColour_64 : decode cX11_readColour 64 = .ok (.goto 4, 3) := by decide +kernel
theorem dX11_readColour_67 : decode cX11_readColour 67 = .ok (.iconst 0, 1) := by decide +kernel
theorem dX11_readColour_68 : decode cX11_readColour 68 = .ok (.iastore, 1) := by decide +kernel
theorem dX11_readColour_69 : decode cX11_readColour 69 = .ok (.return_, 1) := by decide +kernel
set_option maxRecDepth 20000 in
theorem ggX11_statement_X11_next : GoodIn wsX11_statement wsX11_next := goodIn_r _ [7, 1, 8, 9, 10, 6, 11, 12, 13, 128, 129, 130, 131, 132, 133, 134, 135, 136, 137, 138, 139, 140, 141, 142, 143, 144, 145, 146, 147, 148, 149, 150, 151, 152, 153, 154, 155] (by decide +kernel) (by decide +kernel)
set_option maxRecDepth 20000 in
theorem gX11_statement_X11_next : GoodIn wsX11_statement (wsV RX11 87 RX11 yX11_next wsX11_next) := goodIn_app (goodIn_of _ (by decide +kernel)) ggX11_statement_X11_next
set_option maxRecDepth 20000 in
theorem ggX11_statement_X11_takeWord : GoodIn wsX11_statement wsX11_takeWord := goodIn_r _ [17, 1, 18, 19, 20, 6, 21, 22, 3, 4, 5, 7, 8, 9, 10, 11, 12, 13, 23, 24, 25, 26, 27, 28, 29, 30, 31, 32, 33, 34, 35, 36, 37, 38, 39, 40, 41, 42, 43, 44, 45, 46, 47, 48, 49, 50, 51, 52, 53, 54, 55, 56, 57, 58, 59, 60, 61, 62, 63, 64, 65, 66, 67, 68, 69, 70, 71, 72, 73, 74, 128, 129, 130, 131, 132, 133, 134, 135, 136, 137, 138, 139, 140, 141, 142, 143, 144, 145, 146, 147, 148, 149, 150, 151, 152, 153, 154, 155] (by decide +kernel) (by decide +kernel)
set_option maxRecDepth 20000 in
theorem gX11_statement_X11_takeWord : GoodIn wsX11_statement (wsV RX11 125 RX11 yX11_takeWord wsX11_takeWord) := goodIn_app (goodIn_of _ (by decide +kernel)) ggX11_statement_X11_takeWord
set_option maxRecDepth 20000 in
theorem ggX11_statement_X11_readRule : GoodIn wsX11_statement wsX11_readRule := goodIn_r _ [78, 2, 1, 79, 80, 81, 6, 82, 22, 83, 84, 85, 86, 87, 88, 89, 18, 19, 20, 21, 90, 91, 92, 93, 94, 3, 4, 5, 7, 8, 9, 10, 11, 12, 13, 95, 96, 97, 72, 73, 74, 14, 15, 16, 17, 23, 24, 25, 26, 27, 28, 29, 30, 31, 32, 33, 34, 35, 36, 37, 38, 39, 40, 41, 42, 43, 44, 45, 46, 47, 48, 49, 50, 51, 52, 53, 54, 55, 56, 57, 58, 59, 60, 61, 62, 63, 64, 65, 66, 67, 68, 69, 70, 71, 128, 129, 130, 131, 132, 133, 134, 135, 136, 137, 138, 139, 140, 141, 142, 143, 144, 145, 146, 147, 148, 149, 150, 151, 152, 153, 154, 155] (by decide +kernel) (by decide +kernel)
set_option maxRecDepth 20000 in
theorem gX11_statement_X11_readRule : GoodIn wsX11_statement (wsV RX11 156 RX11 yX11_readRule wsX11_readRule) := goodIn_app (goodIn_of _ (by decide +kernel)) ggX11_statement_X11_readRule
set_option maxRecDepth 20000 in
theorem ggX11_statement_X11_readColour : GoodIn wsX11_statement wsX11_readColour := goodIn_r _ [101, 2, 90, 91, 92, 6, 93, 1, 94, 18, 19, 20, 21, 22, 3, 4, 5, 7, 8, 9, 10, 11, 12, 13, 95, 96, 97, 72, 73, 74, 79, 80, 81, 82, 83, 84, 85, 86, 14, 15, 16, 17, 23, 24, 25, 26, 27, 28, 29, 30, 31, 32, 33, 34, 35, 36, 37, 38, 39, 40, 41, 42, 43, 44, 45, 46, 47, 48, 49, 50, 51, 52, 53, 54, 55, 56, 57, 58, 59, 60, 61, 62, 63, 64, 65, 66, 67, 68, 69, 70, 71, 128, 129, 130, 131, 132, 133, 134, 135, 136, 137, 138, 139, 140, 141, 142, 143, 144, 145, 146, 147, 148, 149, 150, 151, 152, 153, 154, 155] (by decide +kernel) (by decide +kernel)
set_option maxRecDepth 20000 in
theorem gX11_statement_X11_readColour : GoodIn wsX11_statement (wsV RX11 162 RX11 yX11_readColour wsX11_readColour) := goodIn_app (goodIn_of _ (by decide +kernel)) ggX11_statement_X11_readColour
set_option maxRecDepth 20000 in
theorem ggX11_statement_X11_once : GoodIn wsX11_statement wsX11_once := goodIn_r _ [105, 106, 79, 80, 81, 6, 82, 22, 83, 128, 129, 130, 131, 132, 133, 134, 135, 136, 137, 138, 139, 140, 141, 142, 143, 144, 145, 146, 147, 148, 149, 150, 151, 152, 153, 154, 155] (by decide +kernel) (by decide +kernel)
set_option maxRecDepth 20000 in
theorem gX11_statement_X11_once : GoodIn wsX11_statement (wsV RX11 167 RX11 yX11_once wsX11_once) := goodIn_app (goodIn_of _ (by decide +kernel)) ggX11_statement_X11_once
set_option maxRecDepth 20000 in
theorem ggX11_statement_X11_sum : GoodIn wsX11_statement wsX11_sum := goodIn_r _ [110, 1, 111, 112, 113, 6, 18, 19, 20, 21, 22, 3, 4, 5, 7, 8, 9, 10, 11, 12, 13, 114, 115, 116, 117, 2, 118, 119, 79, 80, 81, 82, 83, 107, 108, 109, 120, 121, 122, 123, 95, 96, 97, 72, 73, 74, 14, 15, 16, 17, 23, 24, 25, 26, 27, 28, 29, 30, 31, 32, 33, 34, 35, 36, 37, 38, 39, 40, 41, 42, 43, 44, 45, 46, 47, 48, 49, 50, 51, 52, 53, 54, 55, 56, 57, 58, 59, 60, 61, 62, 63, 64, 65, 66, 67, 68, 69, 70, 71, 90, 91, 92, 93, 94, 84, 85, 86, 124, 125, 126, 127, 128, 129, 130, 131, 132, 133, 134, 135, 136, 137, 138, 139, 140, 141, 142, 143, 144, 145, 146, 147, 148, 149, 150, 151, 152, 153, 154, 155] (by decide +kernel) (by decide +kernel)
set_option maxRecDepth 20000 in
theorem gX11_statement_X11_sum : GoodIn wsX11_statement (wsV RX11 116 RX11 yX11_sum wsX11_sum) := goodIn_app (goodIn_of _ (by decide +kernel)) ggX11_statement_X11_sum
set_option maxRecDepth 20000 in
theorem ggX11_statement_X11_report : GoodIn wsX11_statement wsX11_report := goodIn_r _ [82, 22, 83, 128, 129, 130, 131, 132, 133, 134, 135, 136, 137, 138, 139, 140, 141, 142, 143, 144, 145, 146, 147, 148, 149, 150, 151, 152, 153, 154, 155] (by decide +kernel) (by decide +kernel)
set_option maxRecDepth 20000 in
theorem gX11_statement_X11_report : GoodIn wsX11_statement (wsV RX11 100 RX11 yX11_report wsX11_report) := goodIn_app (goodIn_of _ (by decide +kernel)) ggX11_statement_X11_report
set_option maxRecDepth 20000 in
theorem ggX11_statement_X11_expect : GoodIn wsX11_statement wsX11_expect := goodIn_r _ [123, 1, 18, 19, 20, 6, 21, 22, 3, 4, 5, 7, 8, 9, 10, 11, 12, 13, 79, 80, 81, 82, 83, 128, 129, 130, 131, 132, 133, 134, 135, 136, 137, 138, 139, 140, 141, 142, 143, 144, 145, 146, 147, 148, 149, 150, 151, 152, 153, 154, 155] (by decide +kernel) (by decide +kernel)
set_option maxRecDepth 20000 in
theorem gX11_statement_X11_expect : GoodIn wsX11_statement (wsV RX11 119 RX11 yX11_expect wsX11_expect) := goodIn_app (goodIn_of _ (by decide +kernel)) ggX11_statement_X11_expect
theorem dX11_statement_0 : decode cX11_statement 0 = .ok (.aload_n 0, 1) := by decide +kernel
theorem dX11_statement_1 : decode cX11_statement 1 = .ok (.invokevirtual 87, 3) := by decide +kernel
theorem dX11_statement_4 : decode cX11_statement 4 = .ok (.pop, 1) := by decide +kernel
theorem dX11_statement_5 : decode cX11_statement 5 = .ok (.aload_n 0, 1) := by decide +kernel
theorem dX11_statement_6 : decode cX11_statement 6 = .ok (.getfield 66, 3) := by decide +kernel
theorem dX11_statement_9 : decode cX11_statement 9 = .ok (.istore_n 1, 1) := by decide +kernel
theorem dX11_statement_10 : decode cX11_statement 10 = .ok (.aload_n 0, 1) := by decide +kernel
theorem dX11_statement_11 : decode cX11_statement 11 = .ok (.ldc 154, 2) := by decide +kernel
theorem dX11_statement_13 : decode cX11_statement 13 = .ok (.invokevirtual 125, 3) := by decide +kernel
theorem dX11_statement_16 : decode cX11_statement 16 = .ok (.ifCond .eq 12, 3) := by decide +kernel
theorem dX11_statement_19 : decode cX11_statement 19 = .ok (.aload_n 0, 1) := by decide +kernel
theorem dX11_statement_20 : decode cX11_statement 20 = .ok (.iload_n 1, 1) := by decide +kernel
theorem dX11_statement_21 : decode cX11_statement 21 = .ok (.iconst 1, 1) := by decide +kernel
theorem dX11_statement_22 : decode cX11_statement 22 = .ok (.invokevirtual 156, 3) := by decide +kernel
theorem dX11_statement_25 : decode cX11_statement 25 = .ok (.goto 73, 3) := by decide +kernel
theorem dX11_statement_28 : decode cX11_statement 28 = .ok (.aload_n 0, 1) := by decide +kernel
theorem dX11_statement_29 : decode cX11_statement 29 = .ok (.ldc 160, 2) := by decide +kernel
theorem dX11_statement_31 : decode cX11_statement 31 = .ok (.invokevirtual 125, 3) := by decide +kernel
theorem dX11_statement_34 : decode cX11_statement 34 = .ok (.ifCond .eq 12, 3) := by decide +kernel
theorem dX11_statement_37 : decode cX11_statement 37 = .ok (.aload_n 0, 1) := by decide +kernel
theorem dX11_statement_38 : decode cX11_statement 38 = .ok (.iload_n 1, 1) := by decide +kernel
theorem dX11_statement_39 : decode cX11_statement 39 = .ok (.iconst 0, 1) := by decide +kernel
theorem dX11_statement_40 : decode cX11_statement 40 = .ok (.invokevirtual 156, 3) := by decide +kernel
theorem dX11_statement_43 : decode cX11_statement 43 = .ok (.goto 55, 3) := by decide +kernel
theorem dX11_statement_46 : decode cX11_statement 46 = .ok (.aload_n 0, 1) := by decide +kernel
theorem dX11_statement_47 : decode cX11_statement 47 = .ok (.ldc 131, 2) := by decide +kernel
theorem dX11_statement_49 : decode cX11_statement 49 = .ok (.invokevirtual 125, 3) := by decide +kernel
theorem dX11_statement_52 : decode cX11_statement 52 = .ok (.ifCond .eq 10, 3) := by decide +kernel
theorem dX11_statement_55 : decode cX11_statement 55 = .ok (.aload_n 0, 1) := by decide +kernel
theorem dX11_statement_56 : decode cX11_statement 56 = .ok (.invokevirtual 162, 3) := by decide +kernel
theorem dX11_statement_59 : decode cX11_statement 59 = .ok (.goto 39, 3) := by decide +kernel
theorem dX11_statement_62 : decode cX11_statement 62 = .ok (.aload_n 0, 1) := by decide +kernel
theorem dX11_statement_63 : decode cX11_statement 63 = .ok (.ldc 165, 2) := by decide +kernel
theorem dX11_statement_65 : decode cX11_statement 65 = .ok (.invokevirtual 125, 3) := by decide +kernel
theorem dX11_statement_68 : decode cX11_statement 68 = .ok (.ifCond .eq 23, 3) := by decide +kernel
theorem dX11_statement_71 : decode cX11_statement 71 = .ok (.aload_n 0, 1) := by decide +kernel
theorem dX11_statement_72 : decode cX11_statement 72 = .ok (.iconst 0, 1) := by decide +kernel
theorem dX11_statement_73 : decode cX11_statement 73 = .ok (.iload_n 1, 1) := by decide +kernel
theorem dX11_statement_74 : decode cX11_statement 74 = .ok (.invokevirtual 167, 3) := by decide +kernel
theorem dX11_statement_77 : decode cX11_statement 77 = .ok (.aload_n 0, 1) := by decide +kernel
theorem dX11_statement_78 : decode cX11_statement 78 = .ok (.getfield 20, 3) := by decide +kernel
theorem dX11_statement_81 : decode cX11_statement 81 = .ok (.iconst 3, 1) := by decide +kernel
theorem dX11_statement_82 : decode cX11_statement 82 = .ok (.iconst 1, 1) := by decide +kernel
theorem dX11_statement_83 : decode cX11_statement 83 = .ok (.iastore, 1) := by decide +kernel
theorem dX11_statement_84 : decode cX11_statement 84 = .ok (.aload_n 0, 1) := by decide +kernel
theorem dX11_statement_85 : decode cX11_statement 85 = .ok (.invokevirtual 116, 3) := by decide +kernel
theorem dX11_statement_88 : decode cX11_statement 88 = .ok (.goto 10, 3) := by decide +kernel
theorem dX11_statement_91 : decode cX11_statement 91 = .ok (.aload_n 0, 1) := by decide +kernel
theorem dX11_statement_92 : decode cX11_statement 92 = .ok (.bipush (-2), 2) := by decide +kernel
theorem dX11_statement_94 : decode cX11_statement 94 = .ok (.iload_n 1, 1) := by decide +kernel
theorem dX11_statement_95 : decode cX11_statement 95 = .ok (.invokevirtual 100, 3) := by decide +kernel
theorem dX11_statement_98 : decode cX11_statement 98 = .ok (.aload_n 0, 1) := by decide +kernel
theorem dX11_statement_99 : decode cX11_statement 99 = .ok (.bipush 59, 2) := by decide +kernel
theorem dX11_statement_101 : decode cX11_statement 101 = .ok (.invokevirtual 119, 3) := by decide +kernel
theorem dX11_statement_104 : decode cX11_statement 104 = .ok (.return_, 1) := by decide +kernel
set_option maxRecDepth 20000 in
theorem ggX11_load_X11_in : GoodIn wsX11_load wsX11_in := goodIn_r _ [15] (by decide +kernel) (by decide +kernel)
set_option maxRecDepth 20000 in
theorem gX11_load_X11_in : GoodIn wsX11_load (va_wsS RX11 79 yX11_in wsX11_in) := goodIn_app (goodIn_of _ (by decide +kernel)) ggX11_load_X11_in
set_option maxRecDepth 20000 in
theorem ggX11_load_X11_fails : GoodIn wsX11_load wsX11_fails := goodIn_r _ [19, 1, 176, 177, 178, 179, 180, 181, 182, 183, 184, 185, 186, 187, 188, 189, 190, 191, 192, 193, 194, 195, 196, 197, 198, 199, 200, 201, 202, 203] (by decide +kernel) (by decide +kernel)
set_option maxRecDepth 20000 in
theorem gX11_load_X11_fails : GoodIn wsX11_load (wsV RX11 170 RX11 yX11_fails wsX11_fails) := goodIn_app (goodIn_of _ (by decide +kernel)) ggX11_load_X11_fails
set_option maxRecDepth 20000 in
theorem ggX11_load_X11_takeWord : GoodIn wsX11_load wsX11_takeWord := goodIn_r _ [23, 4, 24, 25, 26, 14, 27, 5, 28, 29, 30, 31, 32, 33, 34, 35, 3, 36, 37, 38, 39, 40, 41, 42, 43, 44, 45, 46, 47, 48, 49, 50, 51, 52, 53, 54, 55, 56, 57, 58, 59, 60, 61, 62, 63, 64, 65, 66, 67, 68, 69, 70, 71, 72, 73, 74, 75, 76, 77, 78, 79, 80, 81, 82, 83, 84, 85, 12, 13, 15, 176, 177, 178, 179, 180, 181, 182, 183, 184, 185, 186, 187, 188, 189, 190, 191, 192, 193, 194, 195, 196, 197, 198, 199, 200, 201, 202, 203] (by decide +kernel) (by decide +kernel)
set_option maxRecDepth 20000 in
theorem gX11_load_X11_takeWord : GoodIn wsX11_load (wsV RX11 125 RX11 yX11_takeWord wsX11_takeWord) := goodIn_app (goodIn_of _ (by decide +kernel)) ggX11_load_X11_takeWord
set_option maxRecDepth 20000 in
theorem ggX11_load_X11_report : GoodIn wsX11_load wsX11_report := goodIn_r _ [89, 5, 6, 176, 177, 178, 179, 180, 181, 182, 183, 184, 185, 186, 187, 188, 189, 190, 191, 192, 193, 194, 195, 196, 197, 198, 199, 200, 201, 202, 203] (by decide +kernel) (by decide +kernel)
set_option maxRecDepth 20000 in
theorem gX11_load_X11_report : GoodIn wsX11_load (wsV RX11 100 RX11 yX11_report wsX11_report) := goodIn_app (goodIn_of _ (by decide +kernel)) ggX11_load_X11_report
set_option maxRecDepth 20000 in
theorem ggX11_load_X11_number : GoodIn wsX11_load wsX11_number := goodIn_r _ [93, 4, 94, 24, 25, 26, 14, 27, 5, 28, 29, 30, 31, 32, 33, 34, 35, 3, 36, 95, 96, 97, 12, 13, 15, 86, 87, 88, 89, 6, 98, 99, 100, 176, 177, 178, 179, 180, 181, 182, 183, 184, 185, 186, 187, 188, 189, 190, 191, 192, 193, 194, 195, 196, 197, 198, 199, 200, 201, 202, 203] (by decide +kernel) (by decide +kernel)
set_option maxRecDepth 20000 in
theorem gX11_load_X11_number : GoodIn wsX11_load (wsV RX11 133 RX11 yX11_number wsX11_number) := goodIn_app (goodIn_of _ (by decide +kernel)) ggX11_load_X11_number
set_option maxRecDepth 20000 in
theorem ggX11_load_X11_expect : GoodIn wsX11_load wsX11_expect := goodIn_r _ [104, 4, 24, 25, 26, 14, 27, 5, 28, 29, 30, 31, 32, 33, 34, 35, 3, 36, 86, 87, 88, 89, 6, 176, 177, 178, 179, 180, 181, 182, 183, 184, 185, 186, 187, 188, 189, 190, 191, 192, 193, 194, 195, 196, 197, 198, 199, 200, 201, 202, 203] (by decide +kernel) (by decide +kernel)
set_option maxRecDepth 20000 in
theorem gX11_load_X11_expect : GoodIn wsX11_load (wsV RX11 119 RX11 yX11_expect wsX11_expect) := goodIn_app (goodIn_of _ (by decide +kernel)) ggX11_load_X11_expect
set_option maxRecDepth 20000 in
theorem ggX11_load_X11_isGood : GoodIn wsX11_load wsX11_isGood := goodIn_r _ [27, 5, 176, 177, 178, 179, 180, 181, 182, 183, 184, 185, 186, 187, 188, 189, 190, 191, 192, 193, 194, 195, 196, 197, 198, 199, 200, 201, 202, 203] (by decide +kernel) (by decide +kernel)
set_option maxRecDepth 20000 in
theorem gX11_load_X11_isGood : GoodIn wsX11_load (wsV RX11 83 RX11 yX11_isGood wsX11_isGood) := goodIn_app (goodIn_of _ (by decide +kernel)) ggX11_load_X11_isGood
set_option maxRecDepth 20000 in
theorem ggX11_load_X11_next : GoodIn wsX11_load wsX11_next := goodIn_r _ [31, 4, 32, 33, 34, 14, 35, 3, 36, 176, 177, 178, 179, 180, 181, 182, 183, 184, 185, 186, 187, 188, 189, 190, 191, 192, 193, 194, 195, 196, 197, 198, 199, 200, 201, 202, 203] (by decide +kernel) (by decide +kernel)
set_option maxRecDepth 20000 in
theorem gX11_load_X11_next : GoodIn wsX11_load (wsV RX11 87 RX11 yX11_next wsX11_next) := goodIn_app (goodIn_of _ (by decide +kernel)) ggX11_load_X11_next
set_option maxRecDepth 20000 in
theorem ggX11_load_X11_statement : GoodIn wsX11_load wsX11_statement := goodIn_r _ [108, 4, 9, 28, 29, 30, 14, 31, 32, 33, 34, 35, 3, 36, 20, 21, 22, 23, 24, 25, 26, 27, 5, 37, 38, 39, 40, 41, 42, 43, 44, 45, 46, 47, 48, 49, 50, 51, 52, 53, 54, 55, 56, 57, 58, 59, 60, 61, 62, 63, 64, 65, 66, 67, 68, 69, 70, 71, 72, 73, 74, 75, 76, 77, 78, 79, 80, 81, 82, 83, 84, 85, 12, 13, 15, 109, 110, 111, 112, 86, 87, 88, 89, 6, 98, 99, 100, 113, 114, 115, 90, 91, 92, 93, 94, 95, 96, 97, 116, 117, 118, 119, 120, 121, 122, 123, 8, 124, 125, 126, 127, 128, 129, 130, 131, 132, 133, 134, 135, 7, 101, 102, 103, 104, 136, 137, 138, 139, 176, 177, 178, 179, 180, 181, 182, 183, 184, 185, 186, 187, 188, 189, 190, 191, 192, 193, 194, 195, 196, 197, 198, 199, 200, 201, 202, 203] (by decide +kernel) (by decide +kernel)
set_option maxRecDepth 20000 in
theorem gX11_load_X11_statement : GoodIn wsX11_load (wsV RX11 176 RX11 yX11_statement wsX11_statement) := goodIn_app (goodIn_of _ (by decide +kernel)) ggX11_load_X11_statement
set_option maxRecDepth 20000 in
theorem ggX11_load_X11_remember : GoodIn wsX11_load wsX11_remember := goodIn_r _ [143, 144, 145, 11, 146, 147, 14, 148, 176, 177, 178, 179, 180, 181, 182, 183, 184, 185, 186, 187, 188, 189, 190, 191, 192, 193, 194, 195, 196, 197, 198, 199, 200, 201, 202, 203] (by decide +kernel) (by decide +kernel)
set_option maxRecDepth 20000 in
theorem gX11_load_X11_remember : GoodIn wsX11_load (wsV RX11 179 RX11 yX11_remember wsX11_remember) := goodIn_app (goodIn_of _ (by decide +kernel)) ggX11_load_X11_remember
set_option maxRecDepth 20000 in
theorem ggX11_load_X11_copy : GoodIn wsX11_load wsX11_copy := goodIn_r _ [148] (by decide +kernel) (by decide +kernel)
set_option maxRecDepth 20000 in
theorem gX11_load_X11_copy : GoodIn wsX11_load (va_wsS RX11 182 yX11_copy wsX11_copy) := goodIn_app (goodIn_of _ (by decide +kernel)) ggX11_load_X11_copy
set_option maxRecDepth 20000 in
theorem ggX11_load_X11_layAll : GoodIn wsX11_load wsX11_layAll := goodIn_r _ [152, 153, 11, 154, 155, 156, 113, 114, 14, 115, 157, 158, 159, 160, 161, 12, 13, 15, 162, 163, 164, 165, 166, 167, 168, 169, 170, 171, 172, 173, 174, 175, 176, 177, 178, 179, 180, 181, 182, 183, 184, 185, 186, 187, 188, 189, 190, 191, 192, 193, 194, 195, 196, 197, 198, 199, 200, 201, 202, 203] (by decide +kernel) (by decide +kernel)
set_option maxRecDepth 20000 in
theorem gX11_load_X11_layAll : GoodIn wsX11_load (wsV RX11 186 RX11 yX11_layAll wsX11_layAll) := goodIn_app (goodIn_of _ (by decide +kernel)) ggX11_load_X11_layAll
theorem dX11_load_0 : decode cX11_load 0 = .ok (.aload_n 0, 1) := by decide +kernel
theorem dX11_load_1 : decode cX11_load 1 = .ok (.iconst 0, 1) := by decide +kernel
theorem dX11_load_2 : decode cX11_load 2 = .ok (.putfield 57, 3) := by decide +kernel
theorem dX11_load_5 : decode cX11_load 5 = .ok (.aload_n 0, 1) := by decide +kernel
theorem dX11_load_6 : decode cX11_load 6 = .ok (.iload_n 1, 1) := by decide +kernel
theorem dX11_load_7 : decode cX11_load 7 = .ok (.iconst 0, 1) := by decide +kernel
theorem dX11_load_8 : decode cX11_load 8 = .ok (.aload_n 0, 1) := by decide +kernel
theorem dX11_load_9 : decode cX11_load 9 = .ok (.getfield 60, 3) := by decide +kernel
theorem dX11_load_12 : decode cX11_load 12 = .ok (.invokestatic 79, 3) := by decide +kernel
theorem dX11_load_15 : decode cX11_load 15 = .ok (.ifCond .ne 7, 3) := by decide +kernel
theorem dX11_load_18 : decode cX11_load 18 = .ok (.iconst 1, 1) := by decide +kernel
theorem dX11_load_19 : decode cX11_load 19 = .ok (.goto 4, 3) := by decide +kernel
theorem dX11_load_22 : decode cX11_load 22 = .ok (.iconst 0, 1) := by decide +kernel
theorem dX11_load_23 : decode cX11_load 23 = .ok (.iconst 1, 1) := by decide +kernel
theorem dX11_load_24 : decode cX11_load 24 = .ok (.invokevirtual 170, 3) := by decide +kernel
theorem dX11_load_27 : decode cX11_load 27 = .ok (.ifCond .eq 5, 3) := by decide +kernel
theorem dX11_load_30 : decode cX11_load 30 = .ok (.iconst 0, 1) := by decide +kernel
theorem dX11_load_31 : decode cX11_load 31 = .ok (.ireturn, 1) := by decide +kernel
theorem dX11_load_32 : decode cX11_load 32 = .ok (.aload_n 0, 1) := by decide +kernel
theorem dX11_load_33 : decode cX11_load 33 = .ok (.iconst 0, 1) := by decide +kernel
theorem dX11_load_34 : decode cX11_load 34 = .ok (.putfield 60, 3) := by decide +kernel
theorem dX11_load_37 : decode cX11_load 37 = .ok (.aload_n 0, 1) := by decide +kernel
theorem dX11_load_38 : decode cX11_load 38 = .ok (.iload_n 1, 1) := by decide +kernel
theorem dX11_load_39 : decode cX11_load 39 = .ok (.putfield 63, 3) := by decide +kernel
theorem dX11_load_42 : decode cX11_load 42 = .ok (.aload_n 0, 1) := by decide +kernel
theorem dX11_load_43 : decode cX11_load 43 = .ok (.iconst 0, 1) := by decide +kernel
theorem dX11_load_44 : decode cX11_load 44 = .ok (.putfield 66, 3) := by decide +kernel
theorem dX11_load_47 : decode cX11_load 47 = .ok (.aload_n 0, 1) := by decide +kernel
theorem dX11_load_48 : decode cX11_load 48 = .ok (.iconst 0, 1) := by decide +kernel
theorem dX11_load_49 : decode cX11_load 49 = .ok (.putfield 73, 3) := by decide +kernel
theorem dX11_load_52 : decode cX11_load 52 = .ok (.aload_n 0, 1) := by decide +kernel
theorem dX11_load_53 : decode cX11_load 53 = .ok (.iconst (-1), 1) := by decide +kernel
theorem dX11_load_54 : decode cX11_load 54 = .ok (.putfield 76, 3) := by decide +kernel
theorem dX11_load_57 : decode cX11_load 57 = .ok (.aload_n 0, 1) := by decide +kernel
theorem dX11_load_58 : decode cX11_load 58 = .ok (.iconst 0, 1) := by decide +kernel
theorem dX11_load_59 : decode cX11_load 59 = .ok (.putfield 113, 3) := by decide +kernel
theorem dX11_load_62 : decode cX11_load 62 = .ok (.aload_n 0, 1) := by decide +kernel
theorem dX11_load_63 : decode cX11_load 63 = .ok (.iconst 0, 1) := by decide +kernel
theorem dX11_load_64 : decode cX11_load 64 = .ok (.putfield 145, 3) := by decide +kernel
theorem dX11_load_67 : decode cX11_load 67 = .ok (.iconst 0, 1) := by decide +kernel
theorem dX11_load_68 : decode cX11_load 68 = .ok (.istore_n 2, 1) := by decide +kernel
theorem dX11_load_69 : decode cX11_load 69 = .ok (.iload_n 2, 1) := by decide +kernel
theorem dX11_load_70 : decode cX11_load 70 = .ok (.sipush 1111, 3) := by decide +kernel
theorem dX11_load_73 : decode cX11_load 73 = .ok (.if_icmp .ge 16, 3) := by decide +kernel
theorem dX11_load_76 : decode cX11_load 76 = .ok (.aload_n 0, 1) := by decide +kernel
theorem dX11_load_77 : decode cX11_load 77 = .ok (.getfield 20, 3) := by decide +kernel
theorem dX11_load_80 : decode cX11_load 80 = .ok (.iload_n 2, 1) := by decide +kernel
theorem dX11_load_81 : decode cX11_load 81 = .ok (.iconst 0, 1) := by decide +kernel
theorem dX11_load_82 : decode cX11_load 82 = .ok (.iastore, 1) := by decide +kernel
theorem dX11_load_83 : decode cX11_load 83 = .ok (.iinc 2 1, 3) := by decide +kernel
theorem dX11_load_86 : decode cX11_load 86 = .ok (.goto (-17), 3) := by decide +kernel
theorem dX11_load_89 : decode cX11_load 89 = .ok (.aload_n 0, 1) := by decide +kernel
theorem dX11_load_90 : decode cX11_load 90 = .ok (.ldc 174, 2) := by decide +kernel
theorem dX11_load_92 : decode cX11_load 92 = .ok (.invokevirtual 125, 3) := by decide +kernel
theorem dX11_load_95 : decode cX11_load 95 = .ok (.ifCond .ne 13, 3) := by decide +kernel
theorem dX11_load_98 : decode cX11_load 98 = .ok (.aload_n 0, 1) := by decide +kernel
theorem dX11_load_99 : decode cX11_load 99 = .ok (.bipush (-2), 2) := by decide +kernel
theorem dX11_load_101 : decode cX11_load 101 = .ok (.aload_n 0, 1) := by decide +kernel
theorem dX11_load_102 : decode cX11_load 102 = .ok (.getfield 66, 3) := by decide +kernel
theorem dX11_load_105 : decode cX11_load 105 = .ok (.invokevirtual 100, 3) := by decide +kernel
theorem dX11_load_108 : decode cX11_load 108 = .ok (.aload_n 0, 1) := by decide +kernel
theorem dX11_load_109 : decode cX11_load 109 = .ok (.getfield 20, 3) := by decide +kernel
theorem dX11_load_112 : decode cX11_load 112 = .ok (.iconst 0, 1) := by decide +kernel
theorem dX11_load_113 : decode cX11_load 113 = .ok (.aload_n 0, 1) := by decide +kernel
theorem dX11_load_114 : decode cX11_load 114 = .ok (.iconst 1, 1) := by decide +kernel
theorem dX11_load_115 : decode cX11_load 115 = .ok (.bipush 40, 2) := by decide +kernel
theorem dX11_load_117 : decode cX11_load 117 = .ok (.invokevirtual 133, 3) := by decide +kernel
theorem dX11_load_120 : decode cX11_load 120 = .ok (.iastore, 1) := by decide +kernel
theorem dX11_load_121 : decode cX11_load 121 = .ok (.aload_n 0, 1) := by decide +kernel
theorem dX11_load_122 : decode cX11_load 122 = .ok (.getfield 20, 3) := by decide +kernel
theorem dX11_load_125 : decode cX11_load 125 = .ok (.iconst 1, 1) := by decide +kernel
theorem dX11_load_126 : decode cX11_load 126 = .ok (.aload_n 0, 1) := by decide +kernel
theorem dX11_load_127 : decode cX11_load 127 = .ok (.iconst 1, 1) := by decide +kernel
theorem dX11_load_128 : decode cX11_load 128 = .ok (.iconst 4, 1) := by decide +kernel
theorem dX11_load_129 : decode cX11_load 129 = .ok (.invokevirtual 133, 3) := by decide +kernel
theorem dX11_load_132 : decode cX11_load 132 = .ok (.iastore, 1) := by decide +kernel
theorem dX11_load_133 : decode cX11_load 133 = .ok (.aload_n 0, 1) := by decide +kernel
theorem dX11_load_134 : decode cX11_load 134 = .ok (.bipush 59, 2) := by decide +kernel
theorem dX11_load_136 : decode cX11_load 136 = .ok (.invokevirtual 119, 3) := by decide +kernel
theorem dX11_load_139 : decode cX11_load 139 = .ok (.aload_n 0, 1) := by decide +kernel
theorem dX11_load_140 : decode cX11_load 140 = .ok (.invokevirtual 83, 3) := by decide +kernel
theorem dX11_load_143 : decode cX11_load 143 = .ok (.ifCond .eq 18, 3) := by decide +kernel
theorem dX11_load_146 : decode cX11_load 146 = .ok (.aload_n 0, 1) := by decide +kernel
theorem dX11_load_147 : decode cX11_load 147 = .ok (.invokevirtual 87, 3) := by decide +kernel
theorem dX11_load_150 : decode cX11_load 150 = .ok (.iconst (-1), 1) := by decide +kernel
theorem dX11_load_151 : decode cX11_load 151 = .ok (.if_icmp .eq 10, 3) := by decide +kernel
theorem dX11_load_154 : decode cX11_load 154 = .ok (.aload_n 0, 1) := by decide +kernel
theorem dX11_load_155 : decode cX11_load 155 = .ok (.invokevirtual 176, 3) := by decide +kernel
theorem dX11_load_158 : decode cX11_load 158 = .ok (.goto (-19), 3) := by decide +kernel
theorem dX11_load_161 : decode cX11_load 161 = .ok (.aload_n 0, 1) := by decide +kernel
theorem dX11_load_162 : decode cX11_load 162 = .ok (.aload_n 0, 1) := by decide +kernel
theorem dX11_load_163 : decode cX11_load 163 = .ok (.getfield 76, 3) := by decide +kernel
theorem dX11_load_166 : decode cX11_load 166 = .ok (.putfield 13, 3) := by decide +kernel
theorem dX11_load_169 : decode cX11_load 169 = .ok (.aload_n 0, 1) := by decide +kernel
theorem dX11_load_170 : decode cX11_load 170 = .ok (.invokevirtual 83, 3) := by decide +kernel
theorem dX11_load_173 : decode cX11_load 173 = .ok (.ifCond .ne 8, 3) := by decide +kernel
theorem dX11_load_176 : decode cX11_load 176 = .ok (.aload_n 0, 1) := by decide +kernel
theorem dX11_load_177 : decode cX11_load 177 = .ok (.getfield 73, 3) := by decide +kernel
theorem dX11_load_180 : decode cX11_load 180 = .ok (.ireturn, 1) := by decide +kernel
theorem dX11_load_181 : decode cX11_load 181 = .ok (.aload_n 0, 1) := by decide +kernel
theorem dX11_load_182 : decode cX11_load 182 = .ok (.invokevirtual 179, 3) := by decide +kernel
theorem dX11_load_185 : decode cX11_load 185 = .ok (.aload_n 0, 1) := by decide +kernel
theorem dX11_load_186 : decode cX11_load 186 = .ok (.getfield 20, 3) := by decide +kernel
theorem dX11_load_189 : decode cX11_load 189 = .ok (.aload_n 0, 1) := by decide +kernel
theorem dX11_load_190 : decode cX11_load 190 = .ok (.getfield 17, 3) := by decide +kernel
theorem dX11_load_193 : decode cX11_load 193 = .ok (.invokestatic 182, 3) := by decide +kernel
theorem dX11_load_196 : decode cX11_load 196 = .ok (.aload_n 0, 1) := by decide +kernel
theorem dX11_load_197 : decode cX11_load 197 = .ok (.invokevirtual 186, 3) := by decide +kernel
theorem dX11_load_200 : decode cX11_load 200 = .ok (.aload_n 0, 1) := by decide +kernel
theorem dX11_load_201 : decode cX11_load 201 = .ok (.getfield 17, 3) := by decide +kernel
theorem dX11_load_204 : decode cX11_load 204 = .ok (.iconst 2, 1) := by decide +kernel
theorem dX11_load_205 : decode cX11_load 205 = .ok (.iaload, 1) := by decide +kernel
theorem dX11_load_206 : decode cX11_load 206 = .ok (.ireturn, 1) := by decide +kernel
theorem dX11_errorOffset_0 : decode cX11_errorOffset 0 = .ok (.aload_n 0, 1) := by decide +kernel
theorem dX11_errorOffset_1 : decode cX11_errorOffset 1 = .ok (.iconst 0, 1) := by decide +kernel
theorem dX11_errorOffset_2 : decode cX11_errorOffset 2 = .ok (.putfield 57, 3) := by decide +kernel
theorem dX11_errorOffset_5 : decode cX11_errorOffset 5 = .ok (.aload_n 0, 1) := by decide +kernel
theorem dX11_errorOffset_6 : decode cX11_errorOffset 6 = .ok (.getfield 13, 3) := by decide +kernel
theorem dX11_errorOffset_9 : decode cX11_errorOffset 9 = .ok (.ireturn, 1) := by decide +kernel
theorem dX11_lay_0 : decode cX11_lay 0 = .ok (.aload_n 0, 1) := by decide +kernel
theorem dX11_lay_1 : decode cX11_lay 1 = .ok (.getfield 35, 3) := by decide +kernel
theorem dX11_lay_4 : decode cX11_lay 4 = .ok (.aload_n 0, 1) := by decide +kernel
theorem dX11_lay_5 : decode cX11_lay 5 = .ok (.getfield 189, 3) := by decide +kernel
theorem dX11_lay_8 : decode cX11_lay 8 = .ok (.iload_n 2, 1) := by decide +kernel
theorem dX11_lay_9 : decode cX11_lay 9 = .ok (.iastore, 1) := by decide +kernel
theorem dX11_lay_10 : decode cX11_lay 10 = .ok (.aload_n 0, 1) := by decide +kernel
theorem dX11_lay_11 : decode cX11_lay 11 = .ok (.getfield 38, 3) := by decide +kernel
theorem dX11_lay_14 : decode cX11_lay 14 = .ok (.aload_n 0, 1) := by decide +kernel
theorem dX11_lay_15 : decode cX11_lay 15 = .ok (.getfield 189, 3) := by decide +kernel
theorem dX11_lay_18 : decode cX11_lay 18 = .ok (.iload_n 1, 1) := by decide +kernel
theorem dX11_lay_19 : decode cX11_lay 19 = .ok (.iastore, 1) := by decide +kernel
theorem dX11_lay_20 : decode cX11_lay 20 = .ok (.aload_n 0, 1) := by decide +kernel
theorem dX11_lay_21 : decode cX11_lay 21 = .ok (.getfield 41, 3) := by decide +kernel
theorem dX11_lay_24 : decode cX11_lay 24 = .ok (.iload_n 1, 1) := by decide +kernel
theorem dX11_lay_25 : decode cX11_lay 25 = .ok (.dup2, 1) := by decide +kernel
theorem dX11_lay_26 : decode cX11_lay 26 = .ok (.iaload, 1) := by decide +kernel
theorem dX11_lay_27 : decode cX11_lay 27 = .ok (.iconst 1, 1) := by decide +kernel
theorem dX11_lay_28 : decode cX11_lay 28 = .ok (.iadd, 1) := by decide +kernel
theorem dX11_lay_29 : decode cX11_lay 29 = .ok (.iastore, 1) := by decide +kernel
theorem dX11_lay_30 : decode cX11_lay 30 = .ok (.aload_n 0, 1) := by decide +kernel
theorem dX11_lay_31 : decode cX11_lay 31 = .ok (.dup, 1) := by decide +kernel
theorem dX11_lay_32 : decode cX11_lay 32 = .ok (.getfield 189, 3) := by decide +kernel
theorem dX11_lay_35 : decode cX11_lay 35 = .ok (.iconst 1, 1) := by decide +kernel
theorem dX11_lay_36 : decode cX11_lay 36 = .ok (.iadd, 1) := by decide +kernel
theorem dX11_lay_37 : decode cX11_lay 37 = .ok (.putfield 189, 3) := by decide +kernel
theorem dX11_lay_40 : decode cX11_lay 40 = .ok (.return_, 1) := by decide +kernel
set_option maxRecDepth 20000 in
theorem ggX11_layEquation_X11_rule : GoodIn wsX11_layEquation wsX11_rule := goodIn_r _ [7] (by decide +kernel) (by decide +kernel)
set_option maxRecDepth 20000 in
theorem gX11_layEquation_X11_rule : GoodIn wsX11_layEquation (va_wsS RX11 148 yX11_rule wsX11_rule) := goodIn_app (goodIn_of _ (by decide +kernel)) ggX11_layEquation_X11_rule
set_option maxRecDepth 20000 in
theorem ggX11_layEquation_X11_in : GoodIn wsX11_layEquation wsX11_in := goodIn_r _ [10] (by decide +kernel) (by decide +kernel)
set_option maxRecDepth 20000 in
theorem gX11_layEquation_X11_in : GoodIn wsX11_layEquation (va_wsS RX11 79 yX11_in wsX11_in) := goodIn_app (goodIn_of _ (by decide +kernel)) ggX11_layEquation_X11_in
set_option maxRecDepth 20000 in
theorem ggX11_layEquation_X11_lay : GoodIn wsX11_layEquation wsX11_lay := goodIn_r _ [14, 15, 3, 16, 17, 18, 19, 20, 21, 22, 23, 24, 25, 26, 27, 28, 29, 30, 31, 32, 33, 34, 35, 36, 37, 38, 39, 40, 41, 42, 43, 44, 45] (by decide +kernel) (by decide +kernel)
set_option maxRecDepth 20000 in
theorem gX11_layEquation_X11_lay : GoodIn wsX11_layEquation (wsV RX11 192 RX11 yX11_lay wsX11_lay) := goodIn_app (goodIn_of _ (by decide +kernel)) ggX11_layEquation_X11_lay
theorem dX11_layEquation_0 : decode cX11_layEquation 0 = .ok (.iload_n 1, 1) := by decide +kernel
theorem dX11_layEquation_1 : decode cX11_layEquation 1 = .ok (.invokestatic 148, 3) := by decide +kernel
theorem dX11_layEquation_4 : decode cX11_layEquation 4 = .ok (.istore 4, 2) := by decide +kernel
theorem dX11_layEquation_6 : decode cX11_layEquation 6 = .ok (.aload_n 0, 1) := by decide +kernel
theorem dX11_layEquation_7 : decode cX11_layEquation 7 = .ok (.getfield 17, 3) := by decide +kernel
theorem dX11_layEquation_10 : decode cX11_layEquation 10 = .ok (.iload 4, 2) := by decide +kernel
theorem dX11_layEquation_12 : decode cX11_layEquation 12 = .ok (.iconst 1, 1) := by decide +kernel
theorem dX11_layEquation_13 : decode cX11_layEquation 13 = .ok (.iadd, 1) := by decide +kernel
theorem dX11_layEquation_14 : decode cX11_layEquation 14 = .ok (.iaload, 1) := by decide +kernel
theorem dX11_layEquation_15 : decode cX11_layEquation 15 = .ok (.iload_n 2, 1) := by decide +kernel
theorem dX11_layEquation_16 : decode cX11_layEquation 16 = .ok (.imul, 1) := by decide +kernel
theorem dX11_layEquation_17 : decode cX11_layEquation 17 = .ok (.aload_n 0, 1) := by decide +kernel
theorem dX11_layEquation_18 : decode cX11_layEquation 18 = .ok (.getfield 17, 3) := by decide +kernel
theorem dX11_layEquation_21 : decode cX11_layEquation 21 = .ok (.iload 4, 2) := by decide +kernel
theorem dX11_layEquation_23 : decode cX11_layEquation 23 = .ok (.iconst 1, 1) := by decide +kernel
theorem dX11_layEquation_24 : decode cX11_layEquation 24 = .ok (.iadd, 1) := by decide +kernel
theorem dX11_layEquation_25 : decode cX11_layEquation 25 = .ok (.iconst 1, 1) := by decide +kernel
theorem dX11_layEquation_26 : decode cX11_layEquation 26 = .ok (.iadd, 1) := by decide +kernel
theorem dX11_layEquation_27 : decode cX11_layEquation 27 = .ok (.iaload, 1) := by decide +kernel
theorem dX11_layEquation_28 : decode cX11_layEquation 28 = .ok (.iload_n 3, 1) := by decide +kernel
theorem dX11_layEquation_29 : decode cX11_layEquation 29 = .ok (.imul, 1) := by decide +kernel
theorem dX11_layEquation_30 : decode cX11_layEquation 30 = .ok (.iadd, 1) := by decide +kernel
theorem dX11_layEquation_31 : decode cX11_layEquation 31 = .ok (.aload_n 0, 1) := by decide +kernel
theorem dX11_layEquation_32 : decode cX11_layEquation 32 = .ok (.getfield 17, 3) := by decide +kernel
theorem dX11_layEquation_35 : decode cX11_layEquation 35 = .ok (.iload 4, 2) := by decide +kernel
theorem dX11_layEquation_37 : decode cX11_layEquation 37 = .ok (.iconst 4, 1) := by decide +kernel
theorem dX11_layEquation_38 : decode cX11_layEquation 38 = .ok (.iadd, 1) := by decide +kernel
theorem dX11_layEquation_39 : decode cX11_layEquation 39 = .ok (.iaload, 1) := by decide +kernel
theorem dX11_layEquation_40 : decode cX11_layEquation 40 = .ok (.isub, 1) := by decide +kernel
theorem dX11_layEquation_41 : decode cX11_layEquation 41 = .ok (.istore 5, 2) := by decide +kernel
theorem dX11_layEquation_43 : decode cX11_layEquation 43 = .ok (.aload_n 0, 1) := by decide +kernel
theorem dX11_layEquation_44 : decode cX11_layEquation 44 = .ok (.getfield 17, 3) := by decide +kernel
theorem dX11_layEquation_47 : decode cX11_layEquation 47 = .ok (.iload 4, 2) := by decide +kernel
theorem dX11_layEquation_49 : decode cX11_layEquation 49 = .ok (.iconst 1, 1) := by decide +kernel
theorem dX11_layEquation_50 : decode cX11_layEquation 50 = .ok (.iadd, 1) := by decide +kernel
theorem dX11_layEquation_51 : decode cX11_layEquation 51 = .ok (.iconst 2, 1) := by decide +kernel
theorem dX11_layEquation_52 : decode cX11_layEquation 52 = .ok (.iadd, 1) := by decide +kernel
theorem dX11_layEquation_53 : decode cX11_layEquation 53 = .ok (.iaload, 1) := by decide +kernel
theorem dX11_layEquation_54 : decode cX11_layEquation 54 = .ok (.istore 6, 2) := by decide +kernel
theorem dX11_layEquation_56 : decode cX11_layEquation 56 = .ok (.iload 5, 2) := by decide +kernel
theorem dX11_layEquation_58 : decode cX11_layEquation 58 = .ok (.iload 6, 2) := by decide +kernel
theorem dX11_layEquation_60 : decode cX11_layEquation 60 = .ok (.idiv, 1) := by decide +kernel
theorem dX11_layEquation_61 : decode cX11_layEquation 61 = .ok (.istore 7, 2) := by decide +kernel
theorem dX11_layEquation_63 : decode cX11_layEquation 63 = .ok (.iload 5, 2) := by decide +kernel
theorem dX11_layEquation_65 : decode cX11_layEquation 65 = .ok (.iload 6, 2) := by decide +kernel
theorem dX11_layEquation_67 : decode cX11_layEquation 67 = .ok (.irem, 1) := by decide +kernel
theorem dX11_layEquation_68 : decode cX11_layEquation 68 = .ok (.ifCond .ne 48, 3) := by decide +kernel
theorem dX11_layEquation_71 : decode cX11_layEquation 71 = .ok (.iload 7, 2) := by decide +kernel
theorem dX11_layEquation_73 : decode cX11_layEquation 73 = .ok (.iconst 1, 1) := by decide +kernel
theorem dX11_layEquation_74 : decode cX11_layEquation 74 = .ok (.aload_n 0, 1) := by decide +kernel
theorem dX11_layEquation_75 : decode cX11_layEquation 75 = .ok (.getfield 17, 3) := by decide +kernel
theorem dX11_layEquation_78 : decode cX11_layEquation 78 = .ok (.iconst 0, 1) := by decide +kernel
theorem dX11_layEquation_79 : decode cX11_layEquation 79 = .ok (.iaload, 1) := by decide +kernel
theorem dX11_layEquation_80 : decode cX11_layEquation 80 = .ok (.invokestatic 79, 3) := by decide +kernel
theorem dX11_layEquation_83 : decode cX11_layEquation 83 = .ok (.ifCond .eq 33, 3) := by decide +kernel
theorem dX11_layEquation_86 : decode cX11_layEquation 86 = .ok (.aload_n 0, 1) := by decide +kernel
theorem dX11_layEquation_87 : decode cX11_layEquation 87 = .ok (.getfield 17, 3) := by decide +kernel
theorem dX11_layEquation_90 : decode cX11_layEquation 90 = .ok (.iload 4, 2) := by decide +kernel
theorem dX11_layEquation_92 : decode cX11_layEquation 92 = .ok (.iconst 5, 1) := by decide +kernel
theorem dX11_layEquation_93 : decode cX11_layEquation 93 = .ok (.iadd, 1) := by decide +kernel
theorem dX11_layEquation_94 : decode cX11_layEquation 94 = .ok (.iaload, 1) := by decide +kernel
theorem dX11_layEquation_95 : decode cX11_layEquation 95 = .ok (.iconst 1, 1) := by decide +kernel
theorem dX11_layEquation_96 : decode cX11_layEquation 96 = .ok (.if_icmp .ne 21, 3) := by decide +kernel
theorem dX11_layEquation_99 : decode cX11_layEquation 99 = .ok (.iload_n 2, 1) := by decide +kernel
theorem dX11_layEquation_100 : decode cX11_layEquation 100 = .ok (.iload_n 3, 1) := by decide +kernel
theorem dX11_layEquation_101 : decode cX11_layEquation 101 = .ok (.if_icmp .eq 15, 3) := by decide +kernel
theorem dX11_layEquation_104 : decode cX11_layEquation 104 = .ok (.iload_n 2, 1) := by decide +kernel
theorem dX11_layEquation_105 : decode cX11_layEquation 105 = .ok (.iload 7, 2) := by decide +kernel
theorem dX11_layEquation_107 : decode cX11_layEquation 107 = .ok (.if_icmp .eq 9, 3) := by decide +kernel
theorem dX11_layEquation_110 : decode cX11_layEquation 110 = .ok (.iload_n 3, 1) := by decide +kernel
theorem dX11_layEquation_111 : decode cX11_layEquation 111 = .ok (.iload 7, 2) := by decide +kernel
theorem dX11_layEquation_113 : decode cX11_layEquation 113 = .ok (.if_icmp .ne 4, 3) := by decide +kernel
theorem dX11_layEquation_116 : decode cX11_layEquation 116 = .ok (.return_, 1) := by decide +kernel
theorem dX11_layEquation_117 : decode cX11_layEquation 117 = .ok (.aload_n 0, 1) := by decide +kernel
theorem dX11_layEquation_118 : decode cX11_layEquation 118 = .ok (.getfield 32, 3) := by decide +kernel
theorem dX11_layEquation_121 : decode cX11_layEquation 121 = .ok (.bipush 6, 2) := by decide +kernel
theorem dX11_layEquation_123 : decode cX11_layEquation 123 = .ok (.aload_n 0, 1) := by decide +kernel
theorem dX11_layEquation_124 : decode cX11_layEquation 124 = .ok (.getfield 189, 3) := by decide +kernel
theorem dX11_layEquation_127 : decode cX11_layEquation 127 = .ok (.imul, 1) := by decide +kernel
theorem dX11_layEquation_128 : decode cX11_layEquation 128 = .ok (.iload_n 2, 1) := by decide +kernel
theorem dX11_layEquation_129 : decode cX11_layEquation 129 = .ok (.iastore, 1) := by decide +kernel
theorem dX11_layEquation_130 : decode cX11_layEquation 130 = .ok (.aload_n 0, 1) := by decide +kernel
theorem dX11_layEquation_131 : decode cX11_layEquation 131 = .ok (.getfield 32, 3) := by decide +kernel
theorem dX11_layEquation_134 : decode cX11_layEquation 134 = .ok (.bipush 6, 2) := by decide +kernel
theorem dX11_layEquation_136 : decode cX11_layEquation 136 = .ok (.aload_n 0, 1) := by decide +kernel
theorem dX11_layEquation_137 : decode cX11_layEquation 137 = .ok (.getfield 189, 3) := by decide +kernel
theorem dX11_layEquation_140 : decode cX11_layEquation 140 = .ok (.imul, 1) := by decide +kernel
theorem dX11_layEquation_141 : decode cX11_layEquation 141 = .ok (.iconst 1, 1) := by decide +kernel
theorem dX11_layEquation_142 : decode cX11_layEquation 142 = .ok (.iadd, 1) := by decide +kernel
theorem dX11_layEquation_143 : decode cX11_layEquation 143 = .ok (.iload_n 3, 1) := by decide +kernel
theorem dX11_layEquation_144 : decode cX11_layEquation 144 = .ok (.iastore, 1) := by decide +kernel
theorem dX11_layEquation_145 : decode cX11_layEquation 145 = .ok (.aload_n 0, 1) := by decide +kernel
theorem dX11_layEquation_146 : decode cX11_layEquation 146 = .ok (.getfield 32, 3) := by decide +kernel
theorem dX11_layEquation_149 : decode cX11_layEquation 149 = .ok (.bipush 6, 2) := by decide +kernel
theorem dX11_layEquation_151 : decode cX11_layEquation 151 = .ok (.aload_n 0, 1) := by decide +kernel
theorem dX11_layEquation_152 : decode cX11_layEquation 152 = .ok (.getfield 189, 3) := by decide +kernel
theorem dX11_layEquation_155 : decode cX11_layEquation 155 = .ok (.imul, 1) := by decide +kernel
theorem dX11_layEquation_156 : decode cX11_layEquation 156 = .ok (.iconst 2, 1) := by decide +kernel
theorem dX11_layEquation_157 : decode cX11_layEquation 157 = .ok (.iadd, 1) := by decide +kernel
theorem dX11_layEquation_158 : decode cX11_layEquation 158 = .ok (.iload 7, 2) := by decide +kernel
theorem dX11_layEquation_160 : decode cX11_layEquation 160 = .ok (.iastore, 1) := by decide +kernel
theorem dX11_layEquation_161 : decode cX11_layEquation 161 = .ok (.aload_n 0, 1) := by decide +kernel
theorem dX11_layEquation_162 : decode cX11_layEquation 162 = .ok (.iload_n 1, 1) := by decide +kernel
theorem dX11_layEquation_163 : decode cX11_layEquation 163 = .ok (.iconst 3, 1) := by decide +kernel
theorem dX11_layEquation_164 : decode cX11_layEquation 164 = .ok (.invokevirtual 192, 3) := by decide +kernel
theorem dX11_layEquation_167 : decode cX11_layEquation 167 = .ok (.return_, 1) := by decide +kernel
set_option maxRecDepth 20000 in
theorem ggX11_layProgression_X11_rule : GoodIn wsX11_layProgression wsX11_rule := goodIn_r _ [7] (by decide +kernel) (by decide +kernel)
set_option maxRecDepth 20000 in
theorem gX11_layProgression_X11_rule : GoodIn wsX11_layProgression (va_wsS RX11 148 yX11_rule wsX11_rule) := goodIn_app (goodIn_of _ (by decide +kernel)) ggX11_layProgression_X11_rule
set_option maxRecDepth 20000 in
theorem ggX11_layProgression_X11_lay : GoodIn wsX11_layProgression wsX11_lay := goodIn_r _ [11, 12, 3, 13, 14, 15, 16, 17, 18, 19, 20, 21, 22, 23, 24, 25, 26, 27, 28, 29, 30, 31, 32, 33, 34, 35, 36, 37, 38, 39, 40, 41, 42] (by decide +kernel) (by decide +kernel)
set_option maxRecDepth 20000 in
theorem gX11_layProgression_X11_lay : GoodIn wsX11_layProgression (wsV RX11 192 RX11 yX11_lay wsX11_lay) := goodIn_app (goodIn_of _ (by decide +kernel)) ggX11_layProgression_X11_lay
theorem dX11_layProgression_0 : decode cX11_layProgression 0 = .ok (.aload_n 0, 1) := by decide +kernel
theorem dX11_layProgression_1 : decode cX11_layProgression 1 = .ok (.getfield 17, 3) := by decide +kernel
theorem dX11_layProgression_4 : decode cX11_layProgression 4 = .ok (.iload_n 1, 1) := by decide +kernel
theorem dX11_layProgression_5 : decode cX11_layProgression 5 = .ok (.invokestatic 148, 3) := by decide +kernel
theorem dX11_layProgression_8 : decode cX11_layProgression 8 = .ok (.iaload, 1) := by decide +kernel
theorem dX11_layProgression_9 : decode cX11_layProgression 9 = .ok (.istore 4, 2) := by decide +kernel
theorem dX11_layProgression_11 : decode cX11_layProgression 11 = .ok (.iload_n 2, 1) := by decide +kernel
theorem dX11_layProgression_12 : decode cX11_layProgression 12 = .ok (.iload_n 3, 1) := by decide +kernel
theorem dX11_layProgression_13 : decode cX11_layProgression 13 = .ok (.iload 4, 2) := by decide +kernel
theorem dX11_layProgression_15 : decode cX11_layProgression 15 = .ok (.iconst 1, 1) := by decide +kernel
theorem dX11_layProgression_16 : decode cX11_layProgression 16 = .ok (.isub, 1) := by decide +kernel
theorem dX11_layProgression_17 : decode cX11_layProgression 17 = .ok (.imul, 1) := by decide +kernel
theorem dX11_layProgression_18 : decode cX11_layProgression 18 = .ok (.iadd, 1) := by decide +kernel
theorem dX11_layProgression_19 : decode cX11_layProgression 19 = .ok (.aload_n 0, 1) := by decide +kernel
theorem dX11_layProgression_20 : decode cX11_layProgression 20 = .ok (.getfield 17, 3) := by decide +kernel
theorem dX11_layProgression_23 : decode cX11_layProgression 23 = .ok (.iconst 0, 1) := by decide +kernel
theorem dX11_layProgression_24 : decode cX11_layProgression 24 = .ok (.iaload, 1) := by decide +kernel
theorem dX11_layProgression_25 : decode cX11_layProgression 25 = .ok (.if_icmp .le 4, 3) := by decide +kernel
theorem dX11_layProgression_28 : decode cX11_layProgression 28 = .ok (.return_, 1) := by decide +kernel
theorem dX11_layProgression_29 : decode cX11_layProgression 29 = .ok (.iconst 0, 1) := by decide +kernel
theorem dX11_layProgression_30 : decode cX11_layProgression 30 = .ok (.istore 5, 2) := by decide +kernel
theorem dX11_layProgression_32 : decode cX11_layProgression 32 = .ok (.iload 5, 2) := by decide +kernel
theorem dX11_layProgression_34 : decode cX11_layProgression 34 = .ok (.iload 4, 2) := by decide +kernel
theorem dX11_layProgression_36 : decode cX11_layProgression 36 = .ok (.if_icmp .ge 30, 3) := by decide +kernel
theorem dX11_layProgression_39 : decode cX11_layProgression 39 = .ok (.aload_n 0, 1) := by decide +kernel
theorem dX11_layProgression_40 : decode cX11_layProgression 40 = .ok (.getfield 32, 3) := by decide +kernel
theorem dX11_layProgression_43 : decode cX11_layProgression 43 = .ok (.bipush 6, 2) := by decide +kernel
theorem dX11_layProgression_45 : decode cX11_layProgression 45 = .ok (.aload_n 0, 1) := by decide +kernel
theorem dX11_layProgression_46 : decode cX11_layProgression 46 = .ok (.getfield 189, 3) := by decide +kernel
theorem dX11_layProgression_49 : decode cX11_layProgression 49 = .ok (.imul, 1) := by decide +kernel
theorem dX11_layProgression_50 : decode cX11_layProgression 50 = .ok (.iload 5, 2) := by decide +kernel
theorem dX11_layProgression_52 : decode cX11_layProgression 52 = .ok (.iadd, 1) := by decide +kernel
theorem dX11_layProgression_53 : decode cX11_layProgression 53 = .ok (.iload_n 2, 1) := by decide +kernel
theorem dX11_layProgression_54 : decode cX11_layProgression 54 = .ok (.iload_n 3, 1) := by decide +kernel
theorem dX11_layProgression_55 : decode cX11_layProgression 55 = .ok (.iload 5, 2) := by decide +kernel
theorem dX11_layProgression_57 : decode cX11_layProgression 57 = .ok (.imul, 1) := by decide +kernel
theorem dX11_layProgression_58 : decode cX11_layProgression 58 = .ok (.iadd, 1) := by decide +kernel
theorem dX11_layProgression_59 : decode cX11_layProgression 59 = .ok (.iastore, 1) := by decide +kernel
theorem dX11_layProgression_60 : decode cX11_layProgression 60 = .ok (.iinc 5 1, 3) := by decide +kernel
theorem dX11_layProgression_63 : decode cX11_layProgression 63 = .ok (.goto (-31), 3) := by decide +kernel
theorem dX11_layProgression_66 : decode cX11_layProgression 66 = .ok (.aload_n 0, 1) := by decide +kernel
theorem dX11_layProgression_67 : decode cX11_layProgression 67 = .ok (.iload_n 1, 1) := by decide +kernel
theorem dX11_layProgression_68 : decode cX11_layProgression 68 = .ok (.iload 4, 2) := by decide +kernel
theorem dX11_layProgression_70 : decode cX11_layProgression 70 = .ok (.invokevirtual 192, 3) := by decide +kernel
theorem dX11_layProgression_73 : decode cX11_layProgression 73 = .ok (.return_, 1) := by decide +kernel
theorem dX11_contains_0 : decode cX11_contains 0 = .ok (.iconst 0, 1) := by decide +kernel
theorem dX11_contains_1 : decode cX11_contains 1 = .ok (.istore_n 3, 1) := by decide +kernel
theorem dX11_contains_2 : decode cX11_contains 2 = .ok (.iload_n 3, 1) := by decide +kernel
theorem dX11_contains_3 : decode cX11_contains 3 = .ok (.aload_n 0, 1) := by decide +kernel
theorem dX11_contains_4 : decode cX11_contains 4 = .ok (.getfield 35, 3) := by decide +kernel
theorem dX11_contains_7 : decode cX11_contains 7 = .ok (.iload_n 1, 1) := by decide +kernel
theorem dX11_contains_8 : decode cX11_contains 8 = .ok (.iaload, 1) := by decide +kernel
theorem dX11_contains_9 : decode cX11_contains 9 = .ok (.if_icmp .ge 26, 3) := by decide +kernel
theorem dX11_contains_12 : decode cX11_contains 12 = .ok (.aload_n 0, 1) := by decide +kernel
theorem dX11_contains_13 : decode cX11_contains 13 = .ok (.getfield 32, 3) := by decide +kernel
theorem dX11_contains_16 : decode cX11_contains 16 = .ok (.bipush 6, 2) := by decide +kernel
theorem dX11_contains_18 : decode cX11_contains 18 = .ok (.iload_n 1, 1) := by decide +kernel
theorem dX11_contains_19 : decode cX11_contains 19 = .ok (.imul, 1) := by decide +kernel
theorem dX11_contains_20 : decode cX11_contains 20 = .ok (.iload_n 3, 1) := by decide +kernel
theorem dX11_contains_21 : decode cX11_contains 21 = .ok (.iadd, 1) := by decide +kernel
theorem dX11_contains_22 : decode cX11_contains 22 = .ok (.iaload, 1) := by decide +kernel
theorem dX11_contains_23 : decode cX11_contains 23 = .ok (.iload_n 2, 1) := by decide +kernel
theorem dX11_contains_24 : decode cX11_contains 24 = .ok (.if_icmp .ne 5, 3) := by decide +kernel
theorem dX11_contains_27 : decode cX11_contains 27 = .ok (.iconst 1, 1) := by decide +kernel
theorem dX11_contains_28 : decode cX11_contains 28 = .ok (.ireturn, 1) := by decide +kernel
theorem dX11_contains_29 : decode cX11_contains 29 = .ok (.iinc 3 1, 3) := by decide +kernel
theorem dX11_contains_32 : decode cX11_contains 32 = .ok (.goto (-30), 3) := by decide +kernel
theorem dX11_contains_35 : decode cX11_contains 35 = .ok (.iconst 0, 1) := by decide +kernel
theorem dX11_contains_36 : decode cX11_contains 36 = .ok (.ireturn, 1) := by decide +kernel
set_option maxRecDepth 20000 in
theorem ggX11_layAll_X11_rule : GoodIn wsX11_layAll wsX11_rule := goodIn_r _ [9] (by decide +kernel) (by decide +kernel)
set_option maxRecDepth 20000 in
theorem gX11_layAll_X11_rule : GoodIn wsX11_layAll (va_wsS RX11 148 yX11_rule wsX11_rule) := goodIn_app (goodIn_of _ (by decide +kernel)) ggX11_layAll_X11_rule
set_option maxRecDepth 20000 in
theorem ggX11_layAll_X11_layEquation : GoodIn wsX11_layAll wsX11_layEquation := goodIn_r _ [13, 2, 14, 1, 6, 7, 8, 9, 15, 16, 17, 18, 19, 20, 21, 22, 23, 3, 32, 33, 34, 35, 36, 37, 38, 39, 40, 41, 42, 43, 44, 45, 46, 47, 48, 49, 50, 51, 52, 53, 54, 55, 56, 57, 58, 59] (by decide +kernel) (by decide +kernel)
set_option maxRecDepth 20000 in
theorem gX11_layAll_X11_layEquation : GoodIn wsX11_layAll (wsV RX11 195 RX11 yX11_layEquation wsX11_layEquation) := goodIn_app (goodIn_of _ (by decide +kernel)) ggX11_layAll_X11_layEquation
set_option maxRecDepth 20000 in
theorem ggX11_layAll_X11_layProgression : GoodIn wsX11_layAll wsX11_layProgression := goodIn_r _ [27, 2, 14, 1, 6, 7, 8, 9, 18, 19, 20, 21, 22, 23, 3, 32, 33, 34, 35, 36, 37, 38, 39, 40, 41, 42, 43, 44, 45, 46, 47, 48, 49, 50, 51, 52, 53, 54, 55, 56, 57, 58, 59] (by decide +kernel) (by decide +kernel)
set_option maxRecDepth 20000 in
theorem gX11_layAll_X11_layProgression : GoodIn wsX11_layAll (wsV RX11 199 RX11 yX11_layProgression wsX11_layProgression) := goodIn_app (goodIn_of _ (by decide +kernel)) ggX11_layAll_X11_layProgression
set_option maxRecDepth 20000 in
theorem ggX11_layAll_X11_contains : GoodIn wsX11_layAll wsX11_contains := goodIn_r _ [31, 22, 14, 32, 33, 34, 35, 36, 37, 38, 39, 40, 41, 42, 43, 44, 45, 46, 47, 48, 49, 50, 51, 52, 53, 54, 55, 56, 57, 58, 59] (by decide +kernel) (by decide +kernel)
set_option maxRecDepth 20000 in
theorem gX11_layAll_X11_contains : GoodIn wsX11_layAll (wsV RX11 202 RX11 yX11_contains wsX11_contains) := goodIn_app (goodIn_of _ (by decide +kernel)) ggX11_layAll_X11_contains
theorem dX11_layAll_0 : decode cX11_layAll 0 = .ok (.aload_n 0, 1) := by decide +kernel
theorem dX11_layAll_1 : decode cX11_layAll 1 = .ok (.iconst 0, 1) := by decide +kernel
theorem dX11_layAll_2 : decode cX11_layAll 2 = .ok (.putfield 189, 3) := by decide +kernel
theorem dX11_layAll_5 : decode cX11_layAll 5 = .ok (.aload_n 0, 1) := by decide +kernel
theorem dX11_layAll_6 : decode cX11_layAll 6 = .ok (.getfield 17, 3) := by decide +kernel
theorem dX11_layAll_9 : decode cX11_layAll 9 = .ok (.iconst 0, 1) := by decide +kernel
theorem dX11_layAll_10 : decode cX11_layAll 10 = .ok (.iaload, 1) := by decide +kernel
theorem dX11_layAll_11 : decode cX11_layAll 11 = .ok (.istore_n 1, 1) := by decide +kernel
theorem dX11_layAll_12 : decode cX11_layAll 12 = .ok (.iconst 0, 1) := by decide +kernel
theorem dX11_layAll_13 : decode cX11_layAll 13 = .ok (.istore_n 2, 1) := by decide +kernel
theorem dX11_layAll_14 : decode cX11_layAll 14 = .ok (.iconst 0, 1) := by decide +kernel
theorem dX11_layAll_15 : decode cX11_layAll 15 = .ok (.istore_n 3, 1) := by decide +kernel
theorem dX11_layAll_16 : decode cX11_layAll 16 = .ok (.iload_n 3, 1) := by decide +kernel
theorem dX11_layAll_17 : decode cX11_layAll 17 = .ok (.aload_n 0, 1) := by decide +kernel
theorem dX11_layAll_18 : decode cX11_layAll 18 = .ok (.getfield 17, 3) := by decide +kernel
theorem dX11_layAll_21 : decode cX11_layAll 21 = .ok (.iconst 2, 1) := by decide +kernel
theorem dX11_layAll_22 : decode cX11_layAll 22 = .ok (.iaload, 1) := by decide +kernel
theorem dX11_layAll_23 : decode cX11_layAll 23 = .ok (.if_icmp .ge 89, 3) := by decide +kernel
theorem dX11_layAll_26 : decode cX11_layAll 26 = .ok (.aload_n 0, 1) := by decide +kernel
theorem dX11_layAll_27 : decode cX11_layAll 27 = .ok (.getfield 41, 3) := by decide +kernel
theorem dX11_layAll_30 : decode cX11_layAll 30 = .ok (.iload_n 3, 1) := by decide +kernel
theorem dX11_layAll_31 : decode cX11_layAll 31 = .ok (.iconst 0, 1) := by decide +kernel
theorem dX11_layAll_32 : decode cX11_layAll 32 = .ok (.iastore, 1) := by decide +kernel
theorem dX11_layAll_33 : decode cX11_layAll 33 = .ok (.iconst 1, 1) := by decide +kernel
theorem dX11_layAll_34 : decode cX11_layAll 34 = .ok (.istore 4, 2) := by decide +kernel
theorem dX11_layAll_36 : decode cX11_layAll 36 = .ok (.iload 4, 2) := by decide +kernel
theorem dX11_layAll_38 : decode cX11_layAll 38 = .ok (.iload_n 1, 1) := by decide +kernel
theorem dX11_layAll_39 : decode cX11_layAll 39 = .ok (.if_icmp .gt 67, 3) := by decide +kernel
theorem dX11_layAll_42 : decode cX11_layAll 42 = .ok (.iconst 1, 1) := by decide +kernel
theorem dX11_layAll_43 : decode cX11_layAll 43 = .ok (.istore 5, 2) := by decide +kernel
theorem dX11_layAll_45 : decode cX11_layAll 45 = .ok (.iload 5, 2) := by decide +kernel
theorem dX11_layAll_47 : decode cX11_layAll 47 = .ok (.iload_n 1, 1) := by decide +kernel
theorem dX11_layAll_48 : decode cX11_layAll 48 = .ok (.if_icmp .gt 52, 3) := by decide +kernel
theorem dX11_layAll_51 : decode cX11_layAll 51 = .ok (.aload_n 0, 1) := by decide +kernel
theorem dX11_layAll_52 : decode cX11_layAll 52 = .ok (.getfield 17, 3) := by decide +kernel
theorem dX11_layAll_55 : decode cX11_layAll 55 = .ok (.iload_n 3, 1) := by decide +kernel
theorem dX11_layAll_56 : decode cX11_layAll 56 = .ok (.invokestatic 148, 3) := by decide +kernel
theorem dX11_layAll_59 : decode cX11_layAll 59 = .ok (.iaload, 1) := by decide +kernel
theorem dX11_layAll_60 : decode cX11_layAll 60 = .ok (.ifCond .ne 15, 3) := by decide +kernel
theorem dX11_layAll_63 : decode cX11_layAll 63 = .ok (.aload_n 0, 1) := by decide +kernel
theorem dX11_layAll_64 : decode cX11_layAll 64 = .ok (.iload_n 3, 1) := by decide +kernel
theorem dX11_layAll_65 : decode cX11_layAll 65 = .ok (.iload 4, 2) := by decide +kernel
theorem dX11_layAll_67 : decode cX11_layAll 67 = .ok (.iload 5, 2) := by decide +kernel
theorem dX11_layAll_69 : decode cX11_layAll 69 = .ok (.invokevirtual 195, 3) := by decide +kernel
theorem dX11_layAll_72 : decode cX11_layAll 72 = .ok (.goto 22, 3) := by decide +kernel
theorem dX11_layAll_75 : decode cX11_layAll 75 = .ok (.iload 5, 2) := by decide +kernel
theorem dX11_layAll_77 : decode cX11_layAll 77 = .ok (.iload 4, 2) := by decide +kernel
theorem dX11_layAll_79 : decode cX11_layAll 79 = .ok (.if_icmp .le 15, 3) := by decide +kernel
theorem dX11_layAll_82 : decode cX11_layAll 82 = .ok (.aload_n 0, 1) := by decide +kernel
theorem dX11_layAll_83 : decode cX11_layAll 83 = .ok (.iload_n 3, 1) := by decide +kernel
theorem dX11_layAll_84 : decode cX11_layAll 84 = .ok (.iload 4, 2) := by decide +kernel
theorem dX11_layAll_86 : decode cX11_layAll 86 = .ok (.iload 5, 2) := by decide +kernel
theorem dX11_layAll_88 : decode cX11_layAll 88 = .ok (.iload 4, 2) := by decide +kernel
theorem dX11_layAll_90 : decode cX11_layAll 90 = .ok (.isub, 1) := by decide +kernel
theorem dX11_layAll_91 : decode cX11_layAll 91 = .ok (.invokevirtual 199, 3) := by decide +kernel
theorem dX11_layAll_94 : decode cX11_layAll 94 = .ok (.iinc 5 1, 3) := by decide +kernel
theorem dX11_layAll_97 : decode cX11_layAll 97 = .ok (.goto (-52), 3) := by decide +kernel
theorem dX11_layAll_100 : decode cX11_layAll 100 = .ok (.iinc 4 1, 3) := by decide +kernel
theorem dX11_layAll_103 : decode cX11_layAll 103 = .ok (.goto (-67), 3) := by decide +kernel
theorem dX11_layAll_106 : decode cX11_layAll 106 = .ok (.iinc 3 1, 3) := by decide +kernel
theorem dX11_layAll_109 : decode cX11_layAll 109 = .ok (.goto (-93), 3) := by decide +kernel
theorem dX11_layAll_112 : decode cX11_layAll 112 = .ok (.iconst 1, 1) := by decide +kernel
theorem dX11_layAll_113 : decode cX11_layAll 113 = .ok (.istore_n 3, 1) := by decide +kernel
theorem dX11_layAll_114 : decode cX11_layAll 114 = .ok (.iload_n 3, 1) := by decide +kernel
theorem dX11_layAll_115 : decode cX11_layAll 115 = .ok (.iload_n 1, 1) := by decide +kernel
theorem dX11_layAll_116 : decode cX11_layAll 116 = .ok (.if_icmp .gt 58, 3) := by decide +kernel
theorem dX11_layAll_119 : decode cX11_layAll 119 = .ok (.aload_n 0, 1) := by decide +kernel
theorem dX11_layAll_120 : decode cX11_layAll 120 = .ok (.getfield 44, 3) := by decide +kernel
theorem dX11_layAll_123 : decode cX11_layAll 123 = .ok (.iload_n 3, 1) := by decide +kernel
theorem dX11_layAll_124 : decode cX11_layAll 124 = .ok (.iload_n 2, 1) := by decide +kernel
theorem dX11_layAll_125 : decode cX11_layAll 125 = .ok (.iastore, 1) := by decide +kernel
theorem dX11_layAll_126 : decode cX11_layAll 126 = .ok (.iconst 0, 1) := by decide +kernel
theorem dX11_layAll_127 : decode cX11_layAll 127 = .ok (.istore 4, 2) := by decide +kernel
theorem dX11_layAll_129 : decode cX11_layAll 129 = .ok (.iload 4, 2) := by decide +kernel
theorem dX11_layAll_131 : decode cX11_layAll 131 = .ok (.aload_n 0, 1) := by decide +kernel
theorem dX11_layAll_132 : decode cX11_layAll 132 = .ok (.getfield 189, 3) := by decide +kernel
theorem dX11_layAll_135 : decode cX11_layAll 135 = .ok (.if_icmp .ge 33, 3) := by decide +kernel
theorem dX11_layAll_138 : decode cX11_layAll 138 = .ok (.aload_n 0, 1) := by decide +kernel
theorem dX11_layAll_139 : decode cX11_layAll 139 = .ok (.iload 4, 2) := by decide +kernel
theorem dX11_layAll_141 : decode cX11_layAll 141 = .ok (.iload_n 3, 1) := by decide +kernel
theorem dX11_layAll_142 : decode cX11_layAll 142 = .ok (.invokevirtual 202, 3) := by decide +kernel
theorem dX11_layAll_145 : decode cX11_layAll 145 = .ok (.ifCond .ne 6, 3) := by decide +kernel
theorem dX11_layAll_148 : decode cX11_layAll 148 = .ok (.goto 14, 3) := by decide +kernel
theorem dX11_layAll_151 : decode cX11_layAll 151 = .ok (.aload_n 0, 1) := by decide +kernel
theorem dX11_layAll_152 : decode cX11_layAll 152 = .ok (.getfield 47, 3) := by decide +kernel
theorem dX11_layAll_155 : decode cX11_layAll 155 = .ok (.iload_n 2, 1) := by decide +kernel
theorem dX11_layAll_156 : decode cX11_layAll 156 = .ok (.iload 4, 2) := by decide +kernel
theorem dX11_layAll_158 : decode cX11_layAll 158 = .ok (.iastore, 1) := by decide +kernel
theorem dX11_layAll_159 : decode cX11_layAll 159 = .ok (.iinc 2 1, 3) := by decide +kernel
theorem dX11_layAll_162 : decode cX11_layAll 162 = .ok (.iinc 4 1, 3) := by decide +kernel
theorem dX11_layAll_165 : decode cX11_layAll 165 = .ok (.goto (-36), 3) := by decide +kernel
theorem dX11_layAll_168 : decode cX11_layAll 168 = .ok (.iinc 3 1, 3) := by decide +kernel
theorem dX11_layAll_171 : decode cX11_layAll 171 = .ok (.goto (-57), 3) := by decide +kernel
theorem dX11_layAll_174 : decode cX11_layAll 174 = .ok (.aload_n 0, 1) := by decide +kernel
theorem dX11_layAll_175 : decode cX11_layAll 175 = .ok (.getfield 44, 3) := by decide +kernel
theorem dX11_layAll_178 : decode cX11_layAll 178 = .ok (.iload_n 1, 1) := by decide +kernel
theorem dX11_layAll_179 : decode cX11_layAll 179 = .ok (.iconst 1, 1) := by decide +kernel
theorem dX11_layAll_180 : decode cX11_layAll 180 = .ok (.iadd, 1) := by decide +kernel
theorem dX11_layAll_181 : decode cX11_layAll 181 = .ok (.iload_n 2, 1) := by decide +kernel
theorem dX11_layAll_182 : decode cX11_layAll 182 = .ok (.iastore, 1) := by decide +kernel
theorem dX11_layAll_183 : decode cX11_layAll 183 = .ok (.return_, 1) := by decide +kernel
theorem dX11_colourOf_0 : decode cX11_colourOf 0 = .ok (.aload_n 0, 1) := by decide +kernel
theorem dX11_colourOf_1 : decode cX11_colourOf 1 = .ok (.getfield 17, 3) := by decide +kernel
theorem dX11_colourOf_4 : decode cX11_colourOf 4 = .ok (.bipush 29, 2) := by decide +kernel
theorem dX11_colourOf_6 : decode cX11_colourOf 6 = .ok (.iload_n 1, 1) := by decide +kernel
theorem dX11_colourOf_7 : decode cX11_colourOf 7 = .ok (.iadd, 1) := by decide +kernel
theorem dX11_colourOf_8 : decode cX11_colourOf 8 = .ok (.iaload, 1) := by decide +kernel
theorem dX11_colourOf_9 : decode cX11_colourOf 9 = .ok (.iconst 1, 1) := by decide +kernel
theorem dX11_colourOf_10 : decode cX11_colourOf 10 = .ok (.isub, 1) := by decide +kernel
theorem dX11_colourOf_11 : decode cX11_colourOf 11 = .ok (.ireturn, 1) := by decide +kernel
set_option maxRecDepth 20000 in
theorem ggX11_colourAll_X11_colourOf : GoodIn wsX11_colourAll wsX11_colourOf := goodIn_r _ [7, 8, 9, 10, 11, 12, 13, 14, 15, 16, 17, 18, 19, 20, 21, 22, 23, 24, 25, 26, 27, 28, 29, 30, 31, 32, 33, 34, 35, 36] (by decide +kernel) (by decide +kernel)
set_option maxRecDepth 20000 in
theorem gX11_colourAll_X11_colourOf : GoodIn wsX11_colourAll (wsV RX11 206 RX11 yX11_colourOf wsX11_colourOf) := goodIn_app (goodIn_of _ (by decide +kernel)) ggX11_colourAll_X11_colourOf
theorem dX11_colourAll_0 : decode cX11_colourAll 0 = .ok (.aload_n 0, 1) := by decide +kernel
theorem dX11_colourAll_1 : decode cX11_colourAll 1 = .ok (.aload_n 0, 1) := by decide +kernel
theorem dX11_colourAll_2 : decode cX11_colourAll 2 = .ok (.getfield 32, 3) := by decide +kernel
theorem dX11_colourAll_5 : decode cX11_colourAll 5 = .ok (.bipush 6, 2) := by decide +kernel
theorem dX11_colourAll_7 : decode cX11_colourAll 7 = .ok (.iload_n 1, 1) := by decide +kernel
theorem dX11_colourAll_8 : decode cX11_colourAll 8 = .ok (.imul, 1) := by decide +kernel
theorem dX11_colourAll_9 : decode cX11_colourAll 9 = .ok (.iaload, 1) := by decide +kernel
theorem dX11_colourAll_10 : decode cX11_colourAll 10 = .ok (.invokevirtual 206, 3) := by decide +kernel
theorem dX11_colourAll_13 : decode cX11_colourAll 13 = .ok (.istore_n 2, 1) := by decide +kernel
theorem dX11_colourAll_14 : decode cX11_colourAll 14 = .ok (.iconst 1, 1) := by decide +kernel
theorem dX11_colourAll_15 : decode cX11_colourAll 15 = .ok (.istore_n 3, 1) := by decide +kernel
theorem dX11_colourAll_16 : decode cX11_colourAll 16 = .ok (.iload_n 3, 1) := by decide +kernel
theorem dX11_colourAll_17 : decode cX11_colourAll 17 = .ok (.aload_n 0, 1) := by decide +kernel
theorem dX11_colourAll_18 : decode cX11_colourAll 18 = .ok (.getfield 35, 3) := by decide +kernel
theorem dX11_colourAll_21 : decode cX11_colourAll 21 = .ok (.iload_n 1, 1) := by decide +kernel
theorem dX11_colourAll_22 : decode cX11_colourAll 22 = .ok (.iaload, 1) := by decide +kernel
theorem dX11_colourAll_23 : decode cX11_colourAll 23 = .ok (.if_icmp .ge 30, 3) := by decide +kernel
theorem dX11_colourAll_26 : decode cX11_colourAll 26 = .ok (.aload_n 0, 1) := by decide +kernel
theorem dX11_colourAll_27 : decode cX11_colourAll 27 = .ok (.aload_n 0, 1) := by decide +kernel
theorem dX11_colourAll_28 : decode cX11_colourAll 28 = .ok (.getfield 32, 3) := by decide +kernel
theorem dX11_colourAll_31 : decode cX11_colourAll 31 = .ok (.bipush 6, 2) := by decide +kernel
theorem dX11_colourAll_33 : decode cX11_colourAll 33 = .ok (.iload_n 1, 1) := by decide +kernel
theorem dX11_colourAll_34 : decode cX11_colourAll 34 = .ok (.imul, 1) := by decide +kernel
theorem dX11_colourAll_35 : decode cX11_colourAll 35 = .ok (.iload_n 3, 1) := by decide +kernel
theorem dX11_colourAll_36 : decode cX11_colourAll 36 = .ok (.iadd, 1) := by decide +kernel
theorem dX11_colourAll_37 : decode cX11_colourAll 37 = .ok (.iaload, 1) := by decide +kernel
theorem dX11_colourAll_38 : decode cX11_colourAll 38 = .ok (.invokevirtual 206, 3) := by decide +kernel
theorem dX11_colourAll_41 : decode cX11_colourAll 41 = .ok (.iload_n 2, 1) := by decide +kernel
theorem dX11_colourAll_42 : decode cX11_colourAll 42 = .ok (.if_icmp .eq 5, 3) := by decide +kernel
theorem dX11_colourAll_45 : decode cX11_colourAll 45 = .ok (.iconst (-1), 1) := by decide +kernel
theorem dX11_colourAll_46 : decode cX11_colourAll 46 = .ok (.ireturn, 1) := by decide +kernel
theorem dX11_colourAll_47 : decode cX11_colourAll 47 = .ok (.iinc 3 1, 3) := by decide +kernel
theorem dX11_colourAll_50 : decode cX11_colourAll 50 = .ok (.goto (-34), 3) := by decide +kernel
theorem dX11_colourAll_53 : decode cX11_colourAll 53 = .ok (.iload_n 2, 1) := by decide +kernel
theorem dX11_colourAll_54 : decode cX11_colourAll 54 = .ok (.ireturn, 1) := by decide +kernel
set_option maxRecDepth 20000 in
theorem ggX11_extreme_X11_min : GoodIn wsX11_extreme wsX11_min := goodIn_r _ [6] (by decide +kernel) (by decide +kernel)
set_option maxRecDepth 20000 in
theorem gX11_extreme_X11_min : GoodIn wsX11_extreme (va_wsS RX11 109 yX11_min wsX11_min) := goodIn_app (goodIn_of _ (by decide +kernel)) ggX11_extreme_X11_min
set_option maxRecDepth 20000 in
theorem ggX11_extreme_X11_max : GoodIn wsX11_extreme wsX11_max := goodIn_r _ [9] (by decide +kernel) (by decide +kernel)
set_option maxRecDepth 20000 in
theorem gX11_extreme_X11_max : GoodIn wsX11_extreme (va_wsS RX11 209 yX11_max wsX11_max) := goodIn_app (goodIn_of _ (by decide +kernel)) ggX11_extreme_X11_max
theorem dX11_extreme_0 : decode cX11_extreme 0 = .ok (.aload_n 0, 1) := by decide +kernel
theorem dX11_extreme_1 : decode cX11_extreme 1 = .ok (.getfield 32, 3) := by decide +kernel
theorem dX11_extreme_4 : decode cX11_extreme 4 = .ok (.bipush 6, 2) := by decide +kernel
theorem dX11_extreme_6 : decode cX11_extreme 6 = .ok (.iload_n 1, 1) := by decide +kernel
theorem dX11_extreme_7 : decode cX11_extreme 7 = .ok (.imul, 1) := by decide +kernel
theorem dX11_extreme_8 : decode cX11_extreme 8 = .ok (.iaload, 1) := by decide +kernel
theorem dX11_extreme_9 : decode cX11_extreme 9 = .ok (.istore_n 3, 1) := by decide +kernel
theorem dX11_extreme_10 : decode cX11_extreme 10 = .ok (.iconst 1, 1) := by decide +kernel
theorem dX11_extreme_11 : decode cX11_extreme 11 = .ok (.istore 4, 2) := by decide +kernel
theorem dX11_extreme_13 : decode cX11_extreme 13 = .ok (.iload 4, 2) := by decide +kernel
theorem dX11_extreme_15 : decode cX11_extreme 15 = .ok (.aload_n 0, 1) := by decide +kernel
theorem dX11_extreme_16 : decode cX11_extreme 16 = .ok (.getfield 35, 3) := by decide +kernel
theorem dX11_extreme_19 : decode cX11_extreme 19 = .ok (.iload_n 1, 1) := by decide +kernel
theorem dX11_extreme_20 : decode cX11_extreme 20 = .ok (.iaload, 1) := by decide +kernel
theorem dX11_extreme_21 : decode cX11_extreme 21 = .ok (.if_icmp .ge 49, 3) := by decide +kernel
theorem dX11_extreme_24 : decode cX11_extreme 24 = .ok (.iload_n 2, 1) := by decide +kernel
theorem dX11_extreme_25 : decode cX11_extreme 25 = .ok (.ifCond .eq 22, 3) := by decide +kernel
theorem dX11_extreme_28 : decode cX11_extreme 28 = .ok (.iload_n 3, 1) := by decide +kernel
theorem dX11_extreme_29 : decode cX11_extreme 29 = .ok (.aload_n 0, 1) := by decide +kernel
theorem dX11_extreme_30 : decode cX11_extreme 30 = .ok (.getfield 32, 3) := by decide +kernel
theorem dX11_extreme_33 : decode cX11_extreme 33 = .ok (.bipush 6, 2) := by decide +kernel
theorem dX11_extreme_35 : decode cX11_extreme 35 = .ok (.iload_n 1, 1) := by decide +kernel
theorem dX11_extreme_36 : decode cX11_extreme 36 = .ok (.imul, 1) := by decide +kernel
theorem dX11_extreme_37 : decode cX11_extreme 37 = .ok (.iload 4, 2) := by decide +kernel
theorem dX11_extreme_39 : decode cX11_extreme 39 = .ok (.iadd, 1) := by decide +kernel
theorem dX11_extreme_40 : decode cX11_extreme 40 = .ok (.iaload, 1) := by decide +kernel
theorem dX11_extreme_41 : decode cX11_extreme 41 = .ok (.invokestatic 109, 3) := by decide +kernel
theorem dX11_extreme_44 : decode cX11_extreme 44 = .ok (.goto 19, 3) := by decide +kernel
theorem dX11_extreme_47 : decode cX11_extreme 47 = .ok (.iload_n 3, 1) := by decide +kernel
theorem dX11_extreme_48 : decode cX11_extreme 48 = .ok (.aload_n 0, 1) := by decide +kernel
theorem dX11_extreme_49 : decode cX11_extreme 49 = .ok (.getfield 32, 3) := by decide +kernel
theorem dX11_extreme_52 : decode cX11_extreme 52 = .ok (.bipush 6, 2) := by decide +kernel
theorem dX11_extreme_54 : decode cX11_extreme 54 = .ok (.iload_n 1, 1) := by decide +kernel
theorem dX11_extreme_55 : decode cX11_extreme 55 = .ok (.imul, 1) := by decide +kernel
theorem dX11_extreme_56 : decode cX11_extreme 56 = .ok (.iload 4, 2) := by decide +kernel
theorem dX11_extreme_58 : decode cX11_extreme 58 = .ok (.iadd, 1) := by decide +kernel
theorem dX11_extreme_59 : decode cX11_extreme 59 = .ok (.iaload, 1) := by decide +kernel
theorem dX11_extreme_60 : decode cX11_extreme 60 = .ok (.invokestatic 209, 3) := by decide +kernel
theorem dX11_extreme_63 : decode cX11_extreme 63 = .ok (.istore_n 3, 1) := by decide +kernel
theorem dX11_extreme_64 : decode cX11_extreme 64 = .ok (.iinc 4 1, 3) := by decide +kernel
theorem dX11_extreme_67 : decode cX11_extreme 67 = .ok (.goto (-54), 3) := by decide +kernel
theorem dX11_extreme_70 : decode cX11_extreme 70 = .ok (.iload_n 3, 1) := by decide +kernel
theorem dX11_extreme_71 : decode cX11_extreme 71 = .ok (.ireturn, 1) := by decide +kernel
theorem dX11_limited_0 : decode cX11_limited 0 = .ok (.lload_n 0, 1) := by decide +kernel
theorem dX11_limited_1 : decode cX11_limited 1 = .ok (.ldc2_w 212, 3) := by decide +kernel
theorem dX11_limited_4 : decode cX11_limited 4 = .ok (.lcmp, 1) := by decide +kernel
theorem dX11_limited_5 : decode cX11_limited 5 = .ok (.ifCond .le 9, 3) := by decide +kernel
theorem dX11_limited_8 : decode cX11_limited 8 = .ok (.ldc2_w 212, 3) := by decide +kernel
theorem dX11_limited_11 : decode cX11_limited 11 = .ok (.goto 18, 3) := by decide +kernel
theorem dX11_limited_14 : decode cX11_limited 14 = .ok (.lload_n 0, 1) := by decide +kernel
theorem dX11_limited_15 : decode cX11_limited 15 = .ok (.ldc2_w 214, 3) := by decide +kernel
theorem dX11_limited_18 : decode cX11_limited 18 = .ok (.lcmp, 1) := by decide +kernel
theorem dX11_limited_19 : decode cX11_limited 19 = .ok (.ifCond .ge 9, 3) := by decide +kernel
theorem dX11_limited_22 : decode cX11_limited 22 = .ok (.ldc2_w 214, 3) := by decide +kernel
theorem dX11_limited_25 : decode cX11_limited 25 = .ok (.goto 4, 3) := by decide +kernel
theorem dX11_limited_28 : decode cX11_limited 28 = .ok (.lload_n 0, 1) := by decide +kernel
theorem dX11_limited_29 : decode cX11_limited 29 = .ok (.lreturn, 1) := by decide +kernel
set_option maxRecDepth 20000 in
theorem ggX11_operate_X11_limited : GoodIn wsX11_operate wsX11_limited := goodIn_r _ [4, 5, 6] (by decide +kernel) (by decide +kernel)
set_option maxRecDepth 20000 in
theorem gX11_operate_X11_limited : GoodIn wsX11_operate (va_wsS RX11 216 yX11_limited wsX11_limited) := goodIn_app (goodIn_of _ (by decide +kernel)) ggX11_operate_X11_limited
theorem dX11_operate_0 : decode cX11_operate 0 = .ok (.iload_n 0, 1) := by decide +kernel
theorem dX11_operate_1 : decode cX11_operate 1 = .ok (.iconst 5, 1) := by decide +kernel
theorem dX11_operate_2 : decode cX11_operate 2 = .ok (.if_icmp .ne 17, 3) := by decide +kernel
theorem dX11_operate_5 : decode cX11_operate 5 = .ok (.lload_n 3, 1) := by decide +kernel
theorem dX11_operate_6 : decode cX11_operate 6 = .ok (.lconst 0, 1) := by decide +kernel
theorem dX11_operate_7 : decode cX11_operate 7 = .ok (.lcmp, 1) := by decide +kernel
theorem dX11_operate_8 : decode cX11_operate 8 = .ok (.ifCond .ne 7, 3) := by decide +kernel
theorem dX11_operate_11 : decode cX11_operate 11 = .ok (.lconst 0, 1) := by decide +kernel
theorem dX11_operate_12 : decode cX11_operate 12 = .ok (.goto 6, 3) := by decide +kernel
theorem dX11_operate_15 : decode cX11_operate 15 = .ok (.lload_n 1, 1) := by decide +kernel
theorem dX11_operate_16 : decode cX11_operate 16 = .ok (.lload_n 3, 1) := by decide +kernel
theorem dX11_operate_17 : decode cX11_operate 17 = .ok (.ldiv, 1) := by decide +kernel
theorem dX11_operate_18 : decode cX11_operate 18 = .ok (.lreturn, 1) := by decide +kernel
theorem dX11_operate_19 : decode cX11_operate 19 = .ok (.iload_n 0, 1) := by decide +kernel
theorem dX11_operate_20 : decode cX11_operate 20 = .ok (.iconst 2, 1) := by decide +kernel
theorem dX11_operate_21 : decode cX11_operate 21 = .ok (.if_icmp .ne 9, 3) := by decide +kernel
theorem dX11_operate_24 : decode cX11_operate 24 = .ok (.lload_n 1, 1) := by decide +kernel
theorem dX11_operate_25 : decode cX11_operate 25 = .ok (.lload_n 3, 1) := by decide +kernel
theorem dX11_operate_26 : decode cX11_operate 26 = .ok (.ladd, 1) := by decide +kernel
theorem dX11_operate_27 : decode cX11_operate 27 = .ok (.goto 17, 3) := by decide +kernel
theorem dX11_operate_30 : decode cX11_operate 30 = .ok (.iload_n 0, 1) := by decide +kernel
theorem dX11_operate_31 : decode cX11_operate 31 = .ok (.iconst 3, 1) := by decide +kernel
theorem dX11_operate_32 : decode cX11_operate 32 = .ok (.if_icmp .ne 9, 3) := by decide +kernel
theorem dX11_operate_35 : decode cX11_operate 35 = .ok (.lload_n 1, 1) := by decide +kernel
theorem dX11_operate_36 : decode cX11_operate 36 = .ok (.lload_n 3, 1) := by decide +kernel
theorem dX11_operate_37 : decode cX11_operate 37 = .ok (.lsub, 1) := by decide +kernel
theorem dX11_operate_38 : decode cX11_operate 38 = .ok (.goto 6, 3) := by decide +kernel
theorem dX11_operate_41 : decode cX11_operate 41 = .ok (.lload_n 1, 1) := by decide +kernel
theorem dX11_operate_42 : decode cX11_operate 42 = .ok (.lload_n 3, 1) := by decide +kernel
theorem dX11_operate_43 : decode cX11_operate 43 = .ok (.lmul, 1) := by decide +kernel
theorem dX11_operate_44 : decode cX11_operate 44 = .ok (.invokestatic 216, 3) := by decide +kernel
theorem dX11_operate_47 : decode cX11_operate 47 = .ok (.lreturn, 1) := by decide +kernel
set_option maxRecDepth 20000 in
theorem ggX11_weightOf_X11_extreme : GoodIn wsX11_weightOf wsX11_extreme := goodIn_r _ [9, 10, 11, 12, 13, 8, 14, 15, 16, 17, 26, 27, 28, 29, 30, 31, 32, 33, 34, 35, 36, 37, 38, 39, 40, 41, 42, 43, 44, 45, 46, 47, 48, 49, 50, 51, 52, 53] (by decide +kernel) (by decide +kernel)
set_option maxRecDepth 20000 in
theorem gX11_weightOf_X11_extreme : GoodIn wsX11_weightOf (wsV RX11 220 RX11 yX11_extreme wsX11_extreme) := goodIn_app (goodIn_of _ (by decide +kernel)) ggX11_weightOf_X11_extreme
set_option maxRecDepth 20000 in
theorem ggX11_weightOf_X11_operate : GoodIn wsX11_weightOf wsX11_operate := goodIn_r _ [20, 21, 22, 8, 23, 24, 25] (by decide +kernel) (by decide +kernel)
set_option maxRecDepth 20000 in
theorem gX11_weightOf_X11_operate : GoodIn wsX11_weightOf (va_wsS RX11 224 yX11_operate wsX11_operate) := goodIn_app (goodIn_of _ (by decide +kernel)) ggX11_weightOf_X11_operate
theorem dX11_weightOf_0 : decode cX11_weightOf 0 = .ok (.aload_n 0, 1) := by decide +kernel
theorem dX11_weightOf_1 : decode cX11_weightOf 1 = .ok (.getfield 17, 3) := by decide +kernel
theorem dX11_weightOf_4 : decode cX11_weightOf 4 = .ok (.iconst 3, 1) := by decide +kernel
theorem dX11_weightOf_5 : decode cX11_weightOf 5 = .ok (.iaload, 1) := by decide +kernel
theorem dX11_weightOf_6 : decode cX11_weightOf 6 = .ok (.ifCond .ne 5, 3) := by decide +kernel
theorem dX11_weightOf_9 : decode cX11_weightOf 9 = .ok (.iconst 1, 1) := by decide +kernel
theorem dX11_weightOf_10 : decode cX11_weightOf 10 = .ok (.ireturn, 1) := by decide +kernel
theorem dX11_weightOf_11 : decode cX11_weightOf 11 = .ok (.iconst 0, 1) := by decide +kernel
theorem dX11_weightOf_12 : decode cX11_weightOf 12 = .ok (.istore_n 3, 1) := by decide +kernel
theorem dX11_weightOf_13 : decode cX11_weightOf 13 = .ok (.aload_n 0, 1) := by decide +kernel
theorem dX11_weightOf_14 : decode cX11_weightOf 14 = .ok (.iload_n 1, 1) := by decide +kernel
theorem dX11_weightOf_15 : decode cX11_weightOf 15 = .ok (.iconst 0, 1) := by decide +kernel
theorem dX11_weightOf_16 : decode cX11_weightOf 16 = .ok (.invokevirtual 220, 3) := by decide +kernel
theorem dX11_weightOf_19 : decode cX11_weightOf 19 = .ok (.istore 4, 2) := by decide +kernel
theorem dX11_weightOf_21 : decode cX11_weightOf 21 = .ok (.iconst 0, 1) := by decide +kernel
theorem dX11_weightOf_22 : decode cX11_weightOf 22 = .ok (.istore 5, 2) := by decide +kernel
theorem dX11_weightOf_24 : decode cX11_weightOf 24 = .ok (.iload 5, 2) := by decide +kernel
theorem dX11_weightOf_26 : decode cX11_weightOf 26 = .ok (.aload_n 0, 1) := by decide +kernel
theorem dX11_weightOf_27 : decode cX11_weightOf 27 = .ok (.getfield 17, 3) := by decide +kernel
theorem dX11_weightOf_30 : decode cX11_weightOf 30 = .ok (.iconst 4, 1) := by decide +kernel
theorem dX11_weightOf_31 : decode cX11_weightOf 31 = .ok (.iaload, 1) := by decide +kernel
theorem dX11_weightOf_32 : decode cX11_weightOf 32 = .ok (.if_icmp .ge 124, 3) := by decide +kernel
theorem dX11_weightOf_35 : decode cX11_weightOf 35 = .ok (.aload_n 0, 1) := by decide +kernel
theorem dX11_weightOf_36 : decode cX11_weightOf 36 = .ok (.getfield 17, 3) := by decide +kernel
theorem dX11_weightOf_39 : decode cX11_weightOf 39 = .ok (.bipush 111, 2) := by decide +kernel
theorem dX11_weightOf_41 : decode cX11_weightOf 41 = .ok (.iload 5, 2) := by decide +kernel
theorem dX11_weightOf_43 : decode cX11_weightOf 43 = .ok (.iadd, 1) := by decide +kernel
theorem dX11_weightOf_44 : decode cX11_weightOf 44 = .ok (.iaload, 1) := by decide +kernel
theorem dX11_weightOf_45 : decode cX11_weightOf 45 = .ok (.istore 6, 2) := by decide +kernel
theorem dX11_weightOf_47 : decode cX11_weightOf 47 = .ok (.iload 6, 2) := by decide +kernel
theorem dX11_weightOf_49 : decode cX11_weightOf 49 = .ok (.iconst 1, 1) := by decide +kernel
theorem dX11_weightOf_50 : decode cX11_weightOf 50 = .ok (.if_icmp .gt 70, 3) := by decide +kernel
theorem dX11_weightOf_53 : decode cX11_weightOf 53 = .ok (.iinc 5 1, 3) := by decide +kernel
theorem dX11_weightOf_56 : decode cX11_weightOf 56 = .ok (.aload_n 0, 1) := by decide +kernel
theorem dX11_weightOf_57 : decode cX11_weightOf 57 = .ok (.getfield 17, 3) := by decide +kernel
theorem dX11_weightOf_60 : decode cX11_weightOf 60 = .ok (.bipush 111, 2) := by decide +kernel
theorem dX11_weightOf_62 : decode cX11_weightOf 62 = .ok (.iload 5, 2) := by decide +kernel
theorem dX11_weightOf_64 : decode cX11_weightOf 64 = .ok (.iadd, 1) := by decide +kernel
theorem dX11_weightOf_65 : decode cX11_weightOf 65 = .ok (.iaload, 1) := by decide +kernel
theorem dX11_weightOf_66 : decode cX11_weightOf 66 = .ok (.istore 7, 2) := by decide +kernel
theorem dX11_weightOf_68 : decode cX11_weightOf 68 = .ok (.aload_n 0, 1) := by decide +kernel
theorem dX11_weightOf_69 : decode cX11_weightOf 69 = .ok (.getfield 50, 3) := by decide +kernel
theorem dX11_weightOf_72 : decode cX11_weightOf 72 = .ok (.iload_n 3, 1) := by decide +kernel
theorem dX11_weightOf_73 : decode cX11_weightOf 73 = .ok (.iload 6, 2) := by decide +kernel
theorem dX11_weightOf_75 : decode cX11_weightOf 75 = .ok (.ifCond .ne 9, 3) := by decide +kernel
theorem dX11_weightOf_78 : decode cX11_weightOf 78 = .ok (.iload 7, 2) := by decide +kernel
theorem dX11_weightOf_80 : decode cX11_weightOf 80 = .ok (.i2l, 1) := by decide +kernel
theorem dX11_weightOf_81 : decode cX11_weightOf 81 = .ok (.goto 32, 3) := by decide +kernel
theorem dX11_weightOf_84 : decode cX11_weightOf 84 = .ok (.iload 7, 2) := by decide +kernel
theorem dX11_weightOf_86 : decode cX11_weightOf 86 = .ok (.ifCond .ne 13, 3) := by decide +kernel
theorem dX11_weightOf_89 : decode cX11_weightOf 89 = .ok (.aload_n 0, 1) := by decide +kernel
theorem dX11_weightOf_90 : decode cX11_weightOf 90 = .ok (.getfield 38, 3) := by decide +kernel
theorem dX11_weightOf_93 : decode cX11_weightOf 93 = .ok (.iload_n 1, 1) := by decide +kernel
theorem dX11_weightOf_94 : decode cX11_weightOf 94 = .ok (.iaload, 1) := by decide +kernel
theorem dX11_weightOf_95 : decode cX11_weightOf 95 = .ok (.i2l, 1) := by decide +kernel
theorem dX11_weightOf_96 : decode cX11_weightOf 96 = .ok (.goto 17, 3) := by decide +kernel
theorem dX11_weightOf_99 : decode cX11_weightOf 99 = .ok (.iload 7, 2) := by decide +kernel
theorem dX11_weightOf_101 : decode cX11_weightOf 101 = .ok (.iconst 1, 1) := by decide +kernel
theorem dX11_weightOf_102 : decode cX11_weightOf 102 = .ok (.if_icmp .ne 9, 3) := by decide +kernel
theorem dX11_weightOf_105 : decode cX11_weightOf 105 = .ok (.iload 4, 2) := by decide +kernel
theorem dX11_weightOf_107 : decode cX11_weightOf 107 = .ok (.i2l, 1) := by decide +kernel
theorem dX11_weightOf_108 : decode cX11_weightOf 108 = .ok (.goto 5, 3) := by decide +kernel
theorem dX11_weightOf_111 : decode cX11_weightOf 111 = .ok (.iload_n 2, 1) := by decide +kernel
theorem dX11_weightOf_112 : decode cX11_weightOf 112 = .ok (.i2l, 1) := by decide +kernel
theorem dX11_weightOf_113 : decode cX11_weightOf 113 = .ok (.lastore, 1) := by decide +kernel
theorem dX11_weightOf_114 : decode cX11_weightOf 114 = .ok (.iinc 3 1, 3) := by decide +kernel
theorem dX11_weightOf_117 : decode cX11_weightOf 117 = .ok (.goto 33, 3) := by decide +kernel
theorem dX11_weightOf_120 : decode cX11_weightOf 120 = .ok (.iinc 3 (-1), 3) := by decide +kernel
theorem dX11_weightOf_123 : decode cX11_weightOf 123 = .ok (.aload_n 0, 1) := by decide +kernel
theorem dX11_weightOf_124 : decode cX11_weightOf 124 = .ok (.getfield 50, 3) := by decide +kernel
theorem dX11_weightOf_127 : decode cX11_weightOf 127 = .ok (.iload_n 3, 1) := by decide +kernel
theorem dX11_weightOf_128 : decode cX11_weightOf 128 = .ok (.iconst 1, 1) := by decide +kernel
theorem dX11_weightOf_129 : decode cX11_weightOf 129 = .ok (.isub, 1) := by decide +kernel
theorem dX11_weightOf_130 : decode cX11_weightOf 130 = .ok (.iload 6, 2) := by decide +kernel
theorem dX11_weightOf_132 : decode cX11_weightOf 132 = .ok (.aload_n 0, 1) := by decide +kernel
theorem dX11_weightOf_133 : decode cX11_weightOf 133 = .ok (.getfield 50, 3) := by decide +kernel
theorem dX11_weightOf_136 : decode cX11_weightOf 136 = .ok (.iload_n 3, 1) := by decide +kernel
theorem dX11_weightOf_137 : decode cX11_weightOf 137 = .ok (.iconst 1, 1) := by decide +kernel
theorem dX11_weightOf_138 : decode cX11_weightOf 138 = .ok (.isub, 1) := by decide +kernel
theorem dX11_weightOf_139 : decode cX11_weightOf 139 = .ok (.laload, 1) := by decide +kernel
theorem dX11_weightOf_140 : decode cX11_weightOf 140 = .ok (.aload_n 0, 1) := by decide +kernel
theorem dX11_weightOf_141 : decode cX11_weightOf 141 = .ok (.getfield 50, 3) := by decide +kernel
theorem dX11_weightOf_144 : decode cX11_weightOf 144 = .ok (.iload_n 3, 1) := by decide +kernel
theorem dX11_weightOf_145 : decode cX11_weightOf 145 = .ok (.laload, 1) := by decide +kernel
theorem dX11_weightOf_146 : decode cX11_weightOf 146 = .ok (.invokestatic 224, 3) := by decide +kernel
theorem dX11_weightOf_149 : decode cX11_weightOf 149 = .ok (.lastore, 1) := by decide +kernel
theorem dX11_weightOf_150 : decode cX11_weightOf 150 = .ok (.iinc 5 1, 3) := by decide +kernel
theorem dX11_weightOf_153 : decode cX11_weightOf 153 = .ok (.goto (-129), 3) := by decide +kernel
theorem dX11_weightOf_156 : decode cX11_weightOf 156 = .ok (.aload_n 0, 1) := by decide +kernel
theorem dX11_weightOf_157 : decode cX11_weightOf 157 = .ok (.getfield 50, 3) := by decide +kernel
theorem dX11_weightOf_160 : decode cX11_weightOf 160 = .ok (.iconst 0, 1) := by decide +kernel
theorem dX11_weightOf_161 : decode cX11_weightOf 161 = .ok (.laload, 1) := by decide +kernel
theorem dX11_weightOf_162 : decode cX11_weightOf 162 = .ok (.lconst 0, 1) := by decide +kernel
theorem dX11_weightOf_163 : decode cX11_weightOf 163 = .ok (.lcmp, 1) := by decide +kernel
theorem dX11_weightOf_164 : decode cX11_weightOf 164 = .ok (.ifCond .ge 7, 3) := by decide +kernel
theorem dX11_weightOf_167 : decode cX11_weightOf 167 = .ok (.iconst 0, 1) := by decide +kernel
theorem dX11_weightOf_168 : decode cX11_weightOf 168 = .ok (.goto 29, 3) := by decide +kernel
theorem dX11_weightOf_171 : decode cX11_weightOf 171 = .ok (.aload_n 0, 1) := by decide +kernel
theorem dX11_weightOf_172 : decode cX11_weightOf 172 = .ok (.getfield 50, 3) := by decide +kernel
theorem dX11_weightOf_175 : decode cX11_weightOf 175 = .ok (.iconst 0, 1) := by decide +kernel
theorem dX11_weightOf_176 : decode cX11_weightOf 176 = .ok (.laload, 1) := by decide +kernel
theorem dX11_weightOf_177 : decode cX11_weightOf 177 = .ok (.ldc2_w 228, 3) := by decide +kernel
theorem dX11_weightOf_180 : decode cX11_weightOf 180 = .ok (.lcmp, 1) := by decide +kernel
theorem dX11_weightOf_181 : decode cX11_weightOf 181 = .ok (.ifCond .le 9, 3) := by decide +kernel
theorem dX11_weightOf_184 : decode cX11_weightOf 184 = .ok (.sipush 999, 3) := by decide +kernel
theorem dX11_weightOf_187 : decode cX11_weightOf 187 = .ok (.goto 10, 3) := by decide +kernel
theorem dX11_weightOf_190 : decode cX11_weightOf 190 = .ok (.aload_n 0, 1) := by decide +kernel
theorem dX11_weightOf_191 : decode cX11_weightOf 191 = .ok (.getfield 50, 3) := by decide +kernel
theorem dX11_weightOf_194 : decode cX11_weightOf 194 = .ok (.iconst 0, 1) := by decide +kernel
theorem dX11_weightOf_195 : decode cX11_weightOf 195 = .ok (.laload, 1) := by decide +kernel
theorem dX11_weightOf_196 : decode cX11_weightOf 196 = .ok (.l2i, 1) := by decide +kernel
theorem dX11_weightOf_197 : decode cX11_weightOf 197 = .ok (.ireturn, 1) := by decide +kernel
set_option maxRecDepth 20000 in
theorem ggX11_countAll_X11_colourAll : GoodIn wsX11_countAll wsX11_colourAll := goodIn_r _ [6, 7, 8, 9, 10, 11, 5, 12, 13, 14, 15, 16, 17, 18, 19, 20, 21, 22, 23, 24, 25, 26, 27, 28, 29, 30, 31, 32, 33, 34, 35, 36, 37, 38, 39, 40, 41] (by decide +kernel) (by decide +kernel)
set_option maxRecDepth 20000 in
theorem gX11_countAll_X11_colourAll : GoodIn wsX11_countAll (wsV RX11 230 RX11 yX11_colourAll wsX11_colourAll) := goodIn_app (goodIn_of _ (by decide +kernel)) ggX11_countAll_X11_colourAll
theorem dX11_countAll_0 : decode cX11_countAll 0 = .ok (.iconst 0, 1) := by decide +kernel
theorem dX11_countAll_1 : decode cX11_countAll 1 = .ok (.istore_n 1, 1) := by decide +kernel
theorem dX11_countAll_2 : decode cX11_countAll 2 = .ok (.iconst 0, 1) := by decide +kernel
theorem dX11_countAll_3 : decode cX11_countAll 3 = .ok (.istore_n 2, 1) := by decide +kernel
theorem dX11_countAll_4 : decode cX11_countAll 4 = .ok (.iload_n 2, 1) := by decide +kernel
theorem dX11_countAll_5 : decode cX11_countAll 5 = .ok (.aload_n 0, 1) := by decide +kernel
theorem dX11_countAll_6 : decode cX11_countAll 6 = .ok (.getfield 189, 3) := by decide +kernel
theorem dX11_countAll_9 : decode cX11_countAll 9 = .ok (.if_icmp .ge 26, 3) := by decide +kernel
theorem dX11_countAll_12 : decode cX11_countAll 12 = .ok (.iload_n 1, 1) := by decide +kernel
theorem dX11_countAll_13 : decode cX11_countAll 13 = .ok (.aload_n 0, 1) := by decide +kernel
theorem dX11_countAll_14 : decode cX11_countAll 14 = .ok (.iload_n 2, 1) := by decide +kernel
theorem dX11_countAll_15 : decode cX11_countAll 15 = .ok (.invokevirtual 230, 3) := by decide +kernel
theorem dX11_countAll_18 : decode cX11_countAll 18 = .ok (.iconst (-1), 1) := by decide +kernel
theorem dX11_countAll_19 : decode cX11_countAll 19 = .ok (.if_icmp .ne 7, 3) := by decide +kernel
theorem dX11_countAll_22 : decode cX11_countAll 22 = .ok (.iconst 0, 1) := by decide +kernel
theorem dX11_countAll_23 : decode cX11_countAll 23 = .ok (.goto 4, 3) := by decide +kernel
theorem dX11_countAll_26 : decode cX11_countAll 26 = .ok (.iconst 1, 1) := by decide +kernel
theorem dX11_countAll_27 : decode cX11_countAll 27 = .ok (.iadd, 1) := by decide +kernel
theorem dX11_countAll_28 : decode cX11_countAll 28 = .ok (.istore_n 1, 1) := by decide +kernel
theorem dX11_countAll_29 : decode cX11_countAll 29 = .ok (.iinc 2 1, 3) := by decide +kernel
theorem dX11_countAll_32 : decode cX11_countAll 32 = .ok (.goto (-28), 3) := by decide +kernel
theorem dX11_countAll_35 : decode cX11_countAll 35 = .ok (.iload_n 1, 1) := by decide +kernel
theorem dX11_countAll_36 : decode cX11_countAll 36 = .ok (.ireturn, 1) := by decide +kernel
set_option maxRecDepth 20000 in
theorem ggX11_weightAll_X11_colourAll : GoodIn wsX11_weightAll wsX11_colourAll := goodIn_r _ [6, 7, 8, 9, 10, 11, 5, 12, 13, 39, 40, 41, 42, 43, 44, 45, 46, 47, 48, 49, 50, 51, 52, 53, 54, 55, 56, 57, 58, 59, 60, 61, 62, 63, 64, 65, 66] (by decide +kernel) (by decide +kernel)
set_option maxRecDepth 20000 in
theorem gX11_weightAll_X11_colourAll : GoodIn wsX11_weightAll (wsV RX11 230 RX11 yX11_colourAll wsX11_colourAll) := goodIn_app (goodIn_of _ (by decide +kernel)) ggX11_weightAll_X11_colourAll
set_option maxRecDepth 20000 in
theorem ggX11_weightAll_X11_weightOf : GoodIn wsX11_weightAll wsX11_weightOf := goodIn_r _ [17, 13, 18, 19, 20, 21, 22, 23, 5, 24, 7, 8, 25, 26, 27, 28, 29, 30, 31, 32, 33, 34, 35, 36, 37, 38, 39, 40, 41, 42, 43, 44, 45, 46, 47, 48, 49, 50, 51, 52, 53, 54, 55, 56, 57, 58, 59, 60, 61, 62, 63, 64, 65, 66] (by decide +kernel) (by decide +kernel)
set_option maxRecDepth 20000 in
theorem gX11_weightAll_X11_weightOf : GoodIn wsX11_weightAll (wsV RX11 233 RX11 yX11_weightOf wsX11_weightOf) := goodIn_app (goodIn_of _ (by decide +kernel)) ggX11_weightAll_X11_weightOf
theorem dX11_weightAll_0 : decode cX11_weightAll 0 = .ok (.iconst 0, 1) := by decide +kernel
theorem dX11_weightAll_1 : decode cX11_weightAll 1 = .ok (.istore_n 1, 1) := by decide +kernel
theorem dX11_weightAll_2 : decode cX11_weightAll 2 = .ok (.iconst 0, 1) := by decide +kernel
theorem dX11_weightAll_3 : decode cX11_weightAll 3 = .ok (.istore_n 2, 1) := by decide +kernel
theorem dX11_weightAll_4 : decode cX11_weightAll 4 = .ok (.iload_n 2, 1) := by decide +kernel
theorem dX11_weightAll_5 : decode cX11_weightAll 5 = .ok (.aload_n 0, 1) := by decide +kernel
theorem dX11_weightAll_6 : decode cX11_weightAll 6 = .ok (.getfield 189, 3) := by decide +kernel
theorem dX11_weightAll_9 : decode cX11_weightAll 9 = .ok (.if_icmp .ge 31, 3) := by decide +kernel
theorem dX11_weightAll_12 : decode cX11_weightAll 12 = .ok (.aload_n 0, 1) := by decide +kernel
theorem dX11_weightAll_13 : decode cX11_weightAll 13 = .ok (.iload_n 2, 1) := by decide +kernel
theorem dX11_weightAll_14 : decode cX11_weightAll 14 = .ok (.invokevirtual 230, 3) := by decide +kernel
theorem dX11_weightAll_17 : decode cX11_weightAll 17 = .ok (.iconst (-1), 1) := by decide +kernel
theorem dX11_weightAll_18 : decode cX11_weightAll 18 = .ok (.if_icmp .eq 16, 3) := by decide +kernel
theorem dX11_weightAll_21 : decode cX11_weightAll 21 = .ok (.iload_n 1, 1) := by decide +kernel
theorem dX11_weightAll_22 : decode cX11_weightAll 22 = .ok (.aload_n 0, 1) := by decide +kernel
theorem dX11_weightAll_23 : decode cX11_weightAll 23 = .ok (.iload_n 2, 1) := by decide +kernel
theorem dX11_weightAll_24 : decode cX11_weightAll 24 = .ok (.aload_n 0, 1) := by decide +kernel
theorem dX11_weightAll_25 : decode cX11_weightAll 25 = .ok (.iload_n 2, 1) := by decide +kernel
theorem dX11_weightAll_26 : decode cX11_weightAll 26 = .ok (.invokevirtual 230, 3) := by decide +kernel
theorem dX11_weightAll_29 : decode cX11_weightAll 29 = .ok (.invokevirtual 233, 3) := by decide +kernel
theorem dX11_weightAll_32 : decode cX11_weightAll 32 = .ok (.iadd, 1) := by decide +kernel
theorem dX11_weightAll_33 : decode cX11_weightAll 33 = .ok (.istore_n 1, 1) := by decide +kernel
theorem dX11_weightAll_34 : decode cX11_weightAll 34 = .ok (.iinc 2 1, 3) := by decide +kernel
theorem dX11_weightAll_37 : decode cX11_weightAll 37 = .ok (.goto (-33), 3) := by decide +kernel
theorem dX11_weightAll_40 : decode cX11_weightAll 40 = .ok (.iload_n 1, 1) := by decide +kernel
theorem dX11_weightAll_41 : decode cX11_weightAll 41 = .ok (.ireturn, 1) := by decide +kernel
set_option maxRecDepth 20000 in
theorem ggX11_isAllowed_X11_colourAll : GoodIn wsX11_isAllowed wsX11_colourAll := goodIn_r _ [8, 9, 10, 11, 12, 13, 7, 14, 1, 15, 16, 17, 18, 19, 20, 21, 22, 23, 24, 25, 26, 27, 28, 29, 30, 31, 32, 33, 34, 35, 36, 37, 38, 39, 40, 41, 42] (by decide +kernel) (by decide +kernel)
set_option maxRecDepth 20000 in
theorem gX11_isAllowed_X11_colourAll : GoodIn wsX11_isAllowed (wsV RX11 230 RX11 yX11_colourAll wsX11_colourAll) := goodIn_app (goodIn_of _ (by decide +kernel)) ggX11_isAllowed_X11_colourAll
theorem dX11_isAllowed_0 : decode cX11_isAllowed 0 = .ok (.aload_n 0, 1) := by decide +kernel
theorem dX11_isAllowed_1 : decode cX11_isAllowed 1 = .ok (.getfield 17, 3) := by decide +kernel
theorem dX11_isAllowed_4 : decode cX11_isAllowed 4 = .ok (.bipush 29, 2) := by decide +kernel
theorem dX11_isAllowed_6 : decode cX11_isAllowed 6 = .ok (.iload_n 1, 1) := by decide +kernel
theorem dX11_isAllowed_7 : decode cX11_isAllowed 7 = .ok (.iadd, 1) := by decide +kernel
theorem dX11_isAllowed_8 : decode cX11_isAllowed 8 = .ok (.iaload, 1) := by decide +kernel
theorem dX11_isAllowed_9 : decode cX11_isAllowed 9 = .ok (.istore_n 3, 1) := by decide +kernel
theorem dX11_isAllowed_10 : decode cX11_isAllowed 10 = .ok (.aload_n 0, 1) := by decide +kernel
theorem dX11_isAllowed_11 : decode cX11_isAllowed 11 = .ok (.getfield 17, 3) := by decide +kernel
theorem dX11_isAllowed_14 : decode cX11_isAllowed 14 = .ok (.bipush 29, 2) := by decide +kernel
theorem dX11_isAllowed_16 : decode cX11_isAllowed 16 = .ok (.iload_n 1, 1) := by decide +kernel
theorem dX11_isAllowed_17 : decode cX11_isAllowed 17 = .ok (.iadd, 1) := by decide +kernel
theorem dX11_isAllowed_18 : decode cX11_isAllowed 18 = .ok (.iload_n 2, 1) := by decide +kernel
theorem dX11_isAllowed_19 : decode cX11_isAllowed 19 = .ok (.iconst 1, 1) := by decide +kernel
theorem dX11_isAllowed_20 : decode cX11_isAllowed 20 = .ok (.iadd, 1) := by decide +kernel
theorem dX11_isAllowed_21 : decode cX11_isAllowed 21 = .ok (.iastore, 1) := by decide +kernel
theorem dX11_isAllowed_22 : decode cX11_isAllowed 22 = .ok (.iconst 1, 1) := by decide +kernel
theorem dX11_isAllowed_23 : decode cX11_isAllowed 23 = .ok (.istore 4, 2) := by decide +kernel
theorem dX11_isAllowed_25 : decode cX11_isAllowed 25 = .ok (.aload_n 0, 1) := by decide +kernel
theorem dX11_isAllowed_26 : decode cX11_isAllowed 26 = .ok (.getfield 44, 3) := by decide +kernel
theorem dX11_isAllowed_29 : decode cX11_isAllowed 29 = .ok (.iload_n 1, 1) := by decide +kernel
theorem dX11_isAllowed_30 : decode cX11_isAllowed 30 = .ok (.iaload, 1) := by decide +kernel
theorem dX11_isAllowed_31 : decode cX11_isAllowed 31 = .ok (.istore 5, 2) := by decide +kernel
theorem dX11_isAllowed_33 : decode cX11_isAllowed 33 = .ok (.iload 5, 2) := by decide +kernel
theorem dX11_isAllowed_35 : decode cX11_isAllowed 35 = .ok (.aload_n 0, 1) := by decide +kernel
theorem dX11_isAllowed_36 : decode cX11_isAllowed 36 = .ok (.getfield 44, 3) := by decide +kernel
theorem dX11_isAllowed_39 : decode cX11_isAllowed 39 = .ok (.iload_n 1, 1) := by decide +kernel
theorem dX11_isAllowed_40 : decode cX11_isAllowed 40 = .ok (.iconst 1, 1) := by decide +kernel
theorem dX11_isAllowed_41 : decode cX11_isAllowed 41 = .ok (.iadd, 1) := by decide +kernel
theorem dX11_isAllowed_42 : decode cX11_isAllowed 42 = .ok (.iaload, 1) := by decide +kernel
theorem dX11_isAllowed_43 : decode cX11_isAllowed 43 = .ok (.if_icmp .ge 36, 3) := by decide +kernel
theorem dX11_isAllowed_46 : decode cX11_isAllowed 46 = .ok (.iload 4, 2) := by decide +kernel
theorem dX11_isAllowed_48 : decode cX11_isAllowed 48 = .ok (.ifCond .eq 31, 3) := by decide +kernel
theorem dX11_isAllowed_51 : decode cX11_isAllowed 51 = .ok (.aload_n 0, 1) := by decide +kernel
theorem dX11_isAllowed_52 : decode cX11_isAllowed 52 = .ok (.aload_n 0, 1) := by decide +kernel
theorem dX11_isAllowed_53 : decode cX11_isAllowed 53 = .ok (.getfield 47, 3) := by decide +kernel
theorem dX11_isAllowed_56 : decode cX11_isAllowed 56 = .ok (.iload 5, 2) := by decide +kernel
theorem dX11_isAllowed_58 : decode cX11_isAllowed 58 = .ok (.iaload, 1) := by decide +kernel
theorem dX11_isAllowed_59 : decode cX11_isAllowed 59 = .ok (.invokevirtual 230, 3) := by decide +kernel
theorem dX11_isAllowed_62 : decode cX11_isAllowed 62 = .ok (.iconst (-1), 1) := by decide +kernel
theorem dX11_isAllowed_63 : decode cX11_isAllowed 63 = .ok (.if_icmp .ne 7, 3) := by decide +kernel
theorem dX11_isAllowed_66 : decode cX11_isAllowed 66 = .ok (.iconst 1, 1) := by decide +kernel
theorem dX11_isAllowed_67 : decode cX11_isAllowed 67 = .ok (.goto 4, 3) := by decide +kernel
theorem dX11_isAllowed_70 : decode cX11_isAllowed 70 = .ok (.iconst 0, 1) := by decide +kernel
theorem dX11_isAllowed_71 : decode cX11_isAllowed 71 = .ok (.istore 4, 2) := by decide +kernel
theorem dX11_isAllowed_73 : decode cX11_isAllowed 73 = .ok (.iinc 5 1, 3) := by decide +kernel
theorem dX11_isAllowed_76 : decode cX11_isAllowed 76 = .ok (.goto (-43), 3) := by decide +kernel
theorem dX11_isAllowed_79 : decode cX11_isAllowed 79 = .ok (.aload_n 0, 1) := by decide +kernel
theorem dX11_isAllowed_80 : decode cX11_isAllowed 80 = .ok (.getfield 17, 3) := by decide +kernel
theorem dX11_isAllowed_83 : decode cX11_isAllowed 83 = .ok (.bipush 29, 2) := by decide +kernel
theorem dX11_isAllowed_85 : decode cX11_isAllowed 85 = .ok (.iload_n 1, 1) := by decide +kernel
theorem dX11_isAllowed_86 : decode cX11_isAllowed 86 = .ok (.iadd, 1) := by decide +kernel
theorem dX11_isAllowed_87 : decode cX11_isAllowed 87 = .ok (.iload_n 3, 1) := by decide +kernel
theorem dX11_isAllowed_88 : decode cX11_isAllowed 88 = .ok (.iastore, 1) := by decide +kernel
theorem dX11_isAllowed_89 : decode cX11_isAllowed 89 = .ok (.iload 4, 2) := by decide +kernel
theorem dX11_isAllowed_91 : decode cX11_isAllowed 91 = .ok (.ireturn, 1) := by decide +kernel
set_option maxRecDepth 20000 in
theorem ggX11_isUsed_X11_colourOf : GoodIn wsX11_isUsed wsX11_colourOf := goodIn_r _ [6, 1, 7, 8, 9, 10, 11, 12, 13, 14, 15, 16, 17, 18, 19, 20, 21, 22, 23, 24, 25, 26, 27, 28, 29, 30, 31, 32, 33, 34] (by decide +kernel) (by decide +kernel)
set_option maxRecDepth 20000 in
theorem gX11_isUsed_X11_colourOf : GoodIn wsX11_isUsed (wsV RX11 206 RX11 yX11_colourOf wsX11_colourOf) := goodIn_app (goodIn_of _ (by decide +kernel)) ggX11_isUsed_X11_colourOf
theorem dX11_isUsed_0 : decode cX11_isUsed 0 = .ok (.iconst 1, 1) := by decide +kernel
theorem dX11_isUsed_1 : decode cX11_isUsed 1 = .ok (.istore_n 2, 1) := by decide +kernel
theorem dX11_isUsed_2 : decode cX11_isUsed 2 = .ok (.iload_n 2, 1) := by decide +kernel
theorem dX11_isUsed_3 : decode cX11_isUsed 3 = .ok (.aload_n 0, 1) := by decide +kernel
theorem dX11_isUsed_4 : decode cX11_isUsed 4 = .ok (.getfield 17, 3) := by decide +kernel
theorem dX11_isUsed_7 : decode cX11_isUsed 7 = .ok (.iconst 0, 1) := by decide +kernel
theorem dX11_isUsed_8 : decode cX11_isUsed 8 = .ok (.iaload, 1) := by decide +kernel
theorem dX11_isUsed_9 : decode cX11_isUsed 9 = .ok (.if_icmp .gt 20, 3) := by decide +kernel
theorem dX11_isUsed_12 : decode cX11_isUsed 12 = .ok (.aload_n 0, 1) := by decide +kernel
theorem dX11_isUsed_13 : decode cX11_isUsed 13 = .ok (.iload_n 2, 1) := by decide +kernel
theorem dX11_isUsed_14 : decode cX11_isUsed 14 = .ok (.invokevirtual 206, 3) := by decide +kernel
theorem dX11_isUsed_17 : decode cX11_isUsed 17 = .ok (.iload_n 1, 1) := by decide +kernel
theorem dX11_isUsed_18 : decode cX11_isUsed 18 = .ok (.if_icmp .ne 5, 3) := by decide +kernel
theorem dX11_isUsed_21 : decode cX11_isUsed 21 = .ok (.iconst 1, 1) := by decide +kernel
theorem dX11_isUsed_22 : decode cX11_isUsed 22 = .ok (.ireturn, 1) := by decide +kernel
theorem dX11_isUsed_23 : decode cX11_isUsed 23 = .ok (.iinc 2 1, 3) := by decide +kernel
theorem dX11_isUsed_26 : decode cX11_isUsed 26 = .ok (.goto (-24), 3) := by decide +kernel
theorem dX11_isUsed_29 : decode cX11_isUsed 29 = .ok (.iconst 0, 1) := by decide +kernel
theorem dX11_isUsed_30 : decode cX11_isUsed 30 = .ok (.ireturn, 1) := by decide +kernel
set_option maxRecDepth 20000 in
theorem ggX11_nextColour_X11_isUsed : GoodIn wsX11_nextColour wsX11_isUsed := goodIn_r _ [6, 1, 7, 8, 9, 5, 10, 11, 12, 13, 14, 15, 16, 17, 18, 19, 20, 21, 22, 23, 24, 25, 26, 27, 28, 29, 30, 31, 32, 33, 34, 35, 36, 37, 38] (by decide +kernel) (by decide +kernel)
set_option maxRecDepth 20000 in
theorem gX11_nextColour_X11_isUsed : GoodIn wsX11_nextColour (wsV RX11 236 RX11 yX11_isUsed wsX11_isUsed) := goodIn_app (goodIn_of _ (by decide +kernel)) ggX11_nextColour_X11_isUsed
theorem dX11_nextColour_0 : decode cX11_nextColour 0 = .ok (.iload_n 2, 1) := by decide +kernel
theorem dX11_nextColour_1 : decode cX11_nextColour 1 = .ok (.istore_n 3, 1) := by decide +kernel
theorem dX11_nextColour_2 : decode cX11_nextColour 2 = .ok (.iload_n 3, 1) := by decide +kernel
theorem dX11_nextColour_3 : decode cX11_nextColour 3 = .ok (.aload_n 0, 1) := by decide +kernel
theorem dX11_nextColour_4 : decode cX11_nextColour 4 = .ok (.getfield 17, 3) := by decide +kernel
theorem dX11_nextColour_7 : decode cX11_nextColour 7 = .ok (.iconst 1, 1) := by decide +kernel
theorem dX11_nextColour_8 : decode cX11_nextColour 8 = .ok (.iaload, 1) := by decide +kernel
theorem dX11_nextColour_9 : decode cX11_nextColour 9 = .ok (.if_icmp .ge 53, 3) := by decide +kernel
theorem dX11_nextColour_12 : decode cX11_nextColour 12 = .ok (.aload_n 0, 1) := by decide +kernel
theorem dX11_nextColour_13 : decode cX11_nextColour 13 = .ok (.iload_n 3, 1) := by decide +kernel
theorem dX11_nextColour_14 : decode cX11_nextColour 14 = .ok (.invokevirtual 236, 3) := by decide +kernel
theorem dX11_nextColour_17 : decode cX11_nextColour 17 = .ok (.ifCond .ne 45, 3) := by decide +kernel
theorem dX11_nextColour_20 : decode cX11_nextColour 20 = .ok (.iconst 1, 1) := by decide +kernel
theorem dX11_nextColour_21 : decode cX11_nextColour 21 = .ok (.istore 4, 2) := by decide +kernel
theorem dX11_nextColour_23 : decode cX11_nextColour 23 = .ok (.iconst 0, 1) := by decide +kernel
theorem dX11_nextColour_24 : decode cX11_nextColour 24 = .ok (.istore 5, 2) := by decide +kernel
theorem dX11_nextColour_26 : decode cX11_nextColour 26 = .ok (.iload 5, 2) := by decide +kernel
theorem dX11_nextColour_28 : decode cX11_nextColour 28 = .ok (.iload_n 3, 1) := by decide +kernel
theorem dX11_nextColour_29 : decode cX11_nextColour 29 = .ok (.if_icmp .ge 20, 3) := by decide +kernel
theorem dX11_nextColour_32 : decode cX11_nextColour 32 = .ok (.iload 4, 2) := by decide +kernel
theorem dX11_nextColour_34 : decode cX11_nextColour 34 = .ok (.aload_n 0, 1) := by decide +kernel
theorem dX11_nextColour_35 : decode cX11_nextColour 35 = .ok (.iload 5, 2) := by decide +kernel
theorem dX11_nextColour_37 : decode cX11_nextColour 37 = .ok (.invokevirtual 236, 3) := by decide +kernel
theorem dX11_nextColour_40 : decode cX11_nextColour 40 = .ok (.iand, 1) := by decide +kernel
theorem dX11_nextColour_41 : decode cX11_nextColour 41 = .ok (.istore 4, 2) := by decide +kernel
theorem dX11_nextColour_43 : decode cX11_nextColour 43 = .ok (.iinc 5 1, 3) := by decide +kernel
theorem dX11_nextColour_46 : decode cX11_nextColour 46 = .ok (.goto (-20), 3) := by decide +kernel
theorem dX11_nextColour_49 : decode cX11_nextColour 49 = .ok (.iload 4, 2) := by decide +kernel
theorem dX11_nextColour_51 : decode cX11_nextColour 51 = .ok (.ifCond .eq 5, 3) := by decide +kernel
theorem dX11_nextColour_54 : decode cX11_nextColour 54 = .ok (.iload_n 3, 1) := by decide +kernel
theorem dX11_nextColour_55 : decode cX11_nextColour 55 = .ok (.ireturn, 1) := by decide +kernel
theorem dX11_nextColour_56 : decode cX11_nextColour 56 = .ok (.iinc 3 1, 3) := by decide +kernel
theorem dX11_nextColour_59 : decode cX11_nextColour 59 = .ok (.goto (-57), 3) := by decide +kernel
theorem dX11_nextColour_62 : decode cX11_nextColour 62 = .ok (.iload_n 3, 1) := by decide +kernel
theorem dX11_nextColour_63 : decode cX11_nextColour 63 = .ok (.ireturn, 1) := by decide +kernel
set_option maxRecDepth 20000 in
theorem ggX11_search_X11_colourOf : GoodIn wsX11_search wsX11_colourOf := goodIn_r _ [9, 4, 33, 34, 35, 36, 37, 38, 39, 40, 41, 42, 43, 44, 45, 46, 47, 48, 49, 50, 51, 52, 53, 54, 55, 56, 57, 58, 59, 60] (by decide +kernel) (by decide +kernel)
set_option maxRecDepth 20000 in
theorem gX11_search_X11_colourOf : GoodIn wsX11_search (wsV RX11 206 RX11 yX11_colourOf wsX11_colourOf) := goodIn_app (goodIn_of _ (by decide +kernel)) ggX11_search_X11_colourOf
set_option maxRecDepth 20000 in
theorem ggX11_search_X11_nextColour : GoodIn wsX11_search wsX11_nextColour := goodIn_r _ [13, 4, 14, 15, 16, 8, 17, 5, 6, 7, 9, 33, 34, 35, 36, 37, 38, 39, 40, 41, 42, 43, 44, 45, 46, 47, 48, 49, 50, 51, 52, 53, 54, 55, 56, 57, 58, 59, 60] (by decide +kernel) (by decide +kernel)
set_option maxRecDepth 20000 in
theorem gX11_search_X11_nextColour : GoodIn wsX11_search (wsV RX11 245 RX11 yX11_nextColour wsX11_nextColour) := goodIn_app (goodIn_of _ (by decide +kernel)) ggX11_search_X11_nextColour
set_option maxRecDepth 20000 in
theorem ggX11_search_X11_isAllowed : GoodIn wsX11_search wsX11_isAllowed := goodIn_r _ [21, 4, 22, 23, 24, 25, 26, 8, 27, 28, 29, 5, 6, 7, 9, 33, 34, 35, 36, 37, 38, 39, 40, 41, 42, 43, 44, 45, 46, 47, 48, 49, 50, 51, 52, 53, 54, 55, 56, 57, 58, 59, 60] (by decide +kernel) (by decide +kernel)
set_option maxRecDepth 20000 in
theorem gX11_search_X11_isAllowed : GoodIn wsX11_search (wsV RX11 248 RX11 yX11_isAllowed wsX11_isAllowed) := goodIn_app (goodIn_of _ (by decide +kernel)) ggX11_search_X11_isAllowed
set_option maxRecDepth 20000 in
theorem ggX11_search_X11_max : GoodIn wsX11_search wsX11_max := goodIn_r _ [32] (by decide +kernel) (by decide +kernel)
set_option maxRecDepth 20000 in
theorem gX11_search_X11_max : GoodIn wsX11_search (va_wsS RX11 209 yX11_max wsX11_max) := goodIn_app (goodIn_of _ (by decide +kernel)) ggX11_search_X11_max
theorem dX11_search_0 : decode cX11_search 0 = .ok (.iconst 0, 1) := by decide +kernel
theorem dX11_search_1 : decode cX11_search 1 = .ok (.istore_n 3, 1) := by decide +kernel
theorem dX11_search_2 : decode cX11_search 2 = .ok (.iconst 0, 1) := by decide +kernel
theorem dX11_search_3 : decode cX11_search 3 = .ok (.istore 4, 2) := by decide +kernel
theorem dX11_search_5 : decode cX11_search 5 = .ok (.iconst 0, 1) := by decide +kernel
theorem dX11_search_6 : decode cX11_search 6 = .ok (.istore 5, 2) := by decide +kernel
theorem dX11_search_8 : decode cX11_search 8 = .ok (.iconst 1, 1) := by decide +kernel
