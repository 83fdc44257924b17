theorem dX11_search_9 : decode cX11_search 9 = .ok (.istore 6, 2) := by decide +kernel
theorem dX11_search_11 : decode cX11_search 11 = .ok (.iload 6, 2) := by decide +kernel
theorem dX11_search_13 : decode cX11_search 13 = .ok (.iload_n 1, 1) := by decide +kernel
theorem dX11_search_14 : decode cX11_search 14 = .ok (.if_icmp .gt 33, 3) := by decide +kernel
theorem dX11_search_17 : decode cX11_search 17 = .ok (.aload_n 0, 1) := by decide +kernel
theorem dX11_search_18 : decode cX11_search 18 = .ok (.iload 6, 2) := by decide +kernel
theorem dX11_search_20 : decode cX11_search 20 = .ok (.invokevirtual 206, 3) := by decide +kernel
theorem dX11_search_23 : decode cX11_search 23 = .ok (.iconst (-1), 1) := by decide +kernel
theorem dX11_search_24 : decode cX11_search 24 = .ok (.if_icmp .eq 6, 3) := by decide +kernel
theorem dX11_search_27 : decode cX11_search 27 = .ok (.goto 14, 3) := by decide +kernel
theorem dX11_search_30 : decode cX11_search 30 = .ok (.aload_n 0, 1) := by decide +kernel
theorem dX11_search_31 : decode cX11_search 31 = .ok (.getfield 54, 3) := by decide +kernel
theorem dX11_search_34 : decode cX11_search 34 = .ok (.iload_n 3, 1) := by decide +kernel
theorem dX11_search_35 : decode cX11_search 35 = .ok (.iload 6, 2) := by decide +kernel
theorem dX11_search_37 : decode cX11_search 37 = .ok (.iastore, 1) := by decide +kernel
theorem dX11_search_38 : decode cX11_search 38 = .ok (.iinc 3 1, 3) := by decide +kernel
theorem dX11_search_41 : decode cX11_search 41 = .ok (.iinc 6 1, 3) := by decide +kernel
theorem dX11_search_44 : decode cX11_search 44 = .ok (.goto (-33), 3) := by decide +kernel
theorem dX11_search_47 : decode cX11_search 47 = .ok (.aload_n 0, 1) := by decide +kernel
theorem dX11_search_48 : decode cX11_search 48 = .ok (.iconst 0, 1) := by decide +kernel
theorem dX11_search_49 : decode cX11_search 49 = .ok (.putfield 239, 3) := by decide +kernel
theorem dX11_search_52 : decode cX11_search 52 = .ok (.aload_n 0, 1) := by decide +kernel
theorem dX11_search_53 : decode cX11_search 53 = .ok (.iload_n 3, 1) := by decide +kernel
theorem dX11_search_54 : decode cX11_search 54 = .ok (.ifCond .ne 7, 3) := by decide +kernel
theorem dX11_search_57 : decode cX11_search 57 = .ok (.iload_n 1, 1) := by decide +kernel
theorem dX11_search_58 : decode cX11_search 58 = .ok (.goto 11, 3) := by decide +kernel
theorem dX11_search_61 : decode cX11_search 61 = .ok (.aload_n 0, 1) := by decide +kernel
theorem dX11_search_62 : decode cX11_search 62 = .ok (.getfield 54, 3) := by decide +kernel
theorem dX11_search_65 : decode cX11_search 65 = .ok (.iconst 0, 1) := by decide +kernel
theorem dX11_search_66 : decode cX11_search 66 = .ok (.iaload, 1) := by decide +kernel
theorem dX11_search_67 : decode cX11_search 67 = .ok (.iconst 1, 1) := by decide +kernel
theorem dX11_search_68 : decode cX11_search 68 = .ok (.isub, 1) := by decide +kernel
theorem dX11_search_69 : decode cX11_search 69 = .ok (.putfield 242, 3) := by decide +kernel
theorem dX11_search_72 : decode cX11_search 72 = .ok (.iload 4, 2) := by decide +kernel
theorem dX11_search_74 : decode cX11_search 74 = .ok (.iload_n 3, 1) := by decide +kernel
theorem dX11_search_75 : decode cX11_search 75 = .ok (.if_icmp .ge 168, 3) := by decide +kernel
theorem dX11_search_78 : decode cX11_search 78 = .ok (.aload_n 0, 1) := by decide +kernel
theorem dX11_search_79 : decode cX11_search 79 = .ok (.getfield 54, 3) := by decide +kernel
theorem dX11_search_82 : decode cX11_search 82 = .ok (.iload 4, 2) := by decide +kernel
theorem dX11_search_84 : decode cX11_search 84 = .ok (.iaload, 1) := by decide +kernel
theorem dX11_search_85 : decode cX11_search 85 = .ok (.istore 6, 2) := by decide +kernel
theorem dX11_search_87 : decode cX11_search 87 = .ok (.aload_n 0, 1) := by decide +kernel
theorem dX11_search_88 : decode cX11_search 88 = .ok (.iload 6, 2) := by decide +kernel
theorem dX11_search_90 : decode cX11_search 90 = .ok (.iload 5, 2) := by decide +kernel
theorem dX11_search_92 : decode cX11_search 92 = .ok (.invokevirtual 245, 3) := by decide +kernel
theorem dX11_search_95 : decode cX11_search 95 = .ok (.istore 5, 2) := by decide +kernel
theorem dX11_search_97 : decode cX11_search 97 = .ok (.iload 5, 2) := by decide +kernel
theorem dX11_search_99 : decode cX11_search 99 = .ok (.aload_n 0, 1) := by decide +kernel
theorem dX11_search_100 : decode cX11_search 100 = .ok (.getfield 17, 3) := by decide +kernel
theorem dX11_search_103 : decode cX11_search 103 = .ok (.iconst 1, 1) := by decide +kernel
theorem dX11_search_104 : decode cX11_search 104 = .ok (.iaload, 1) := by decide +kernel
theorem dX11_search_105 : decode cX11_search 105 = .ok (.if_icmp .ne 47, 3) := by decide +kernel
theorem dX11_search_108 : decode cX11_search 108 = .ok (.iload 4, 2) := by decide +kernel
theorem dX11_search_110 : decode cX11_search 110 = .ok (.ifCond .ne 5, 3) := by decide +kernel
theorem dX11_search_113 : decode cX11_search 113 = .ok (.iconst (-1), 1) := by decide +kernel
theorem dX11_search_114 : decode cX11_search 114 = .ok (.ireturn, 1) := by decide +kernel
theorem dX11_search_115 : decode cX11_search 115 = .ok (.iinc 4 (-1), 3) := by decide +kernel
theorem dX11_search_118 : decode cX11_search 118 = .ok (.aload_n 0, 1) := by decide +kernel
theorem dX11_search_119 : decode cX11_search 119 = .ok (.aload_n 0, 1) := by decide +kernel
theorem dX11_search_120 : decode cX11_search 120 = .ok (.getfield 54, 3) := by decide +kernel
theorem dX11_search_123 : decode cX11_search 123 = .ok (.iload 4, 2) := by decide +kernel
theorem dX11_search_125 : decode cX11_search 125 = .ok (.iaload, 1) := by decide +kernel
theorem dX11_search_126 : decode cX11_search 126 = .ok (.invokevirtual 206, 3) := by decide +kernel
theorem dX11_search_129 : decode cX11_search 129 = .ok (.iconst 1, 1) := by decide +kernel
theorem dX11_search_130 : decode cX11_search 130 = .ok (.iadd, 1) := by decide +kernel
theorem dX11_search_131 : decode cX11_search 131 = .ok (.istore 5, 2) := by decide +kernel
theorem dX11_search_133 : decode cX11_search 133 = .ok (.aload_n 0, 1) := by decide +kernel
theorem dX11_search_134 : decode cX11_search 134 = .ok (.getfield 17, 3) := by decide +kernel
theorem dX11_search_137 : decode cX11_search 137 = .ok (.bipush 29, 2) := by decide +kernel
theorem dX11_search_139 : decode cX11_search 139 = .ok (.aload_n 0, 1) := by decide +kernel
theorem dX11_search_140 : decode cX11_search 140 = .ok (.getfield 54, 3) := by decide +kernel
theorem dX11_search_143 : decode cX11_search 143 = .ok (.iload 4, 2) := by decide +kernel
theorem dX11_search_145 : decode cX11_search 145 = .ok (.iaload, 1) := by decide +kernel
theorem dX11_search_146 : decode cX11_search 146 = .ok (.iadd, 1) := by decide +kernel
theorem dX11_search_147 : decode cX11_search 147 = .ok (.iconst 0, 1) := by decide +kernel
theorem dX11_search_148 : decode cX11_search 148 = .ok (.iastore, 1) := by decide +kernel
theorem dX11_search_149 : decode cX11_search 149 = .ok (.goto (-77), 3) := by decide +kernel
theorem dX11_search_152 : decode cX11_search 152 = .ok (.aload_n 0, 1) := by decide +kernel
theorem dX11_search_153 : decode cX11_search 153 = .ok (.getfield 239, 3) := by decide +kernel
theorem dX11_search_156 : decode cX11_search 156 = .ok (.iload_n 2, 1) := by decide +kernel
theorem dX11_search_157 : decode cX11_search 157 = .ok (.if_icmp .ne 6, 3) := by decide +kernel
theorem dX11_search_160 : decode cX11_search 160 = .ok (.bipush (-2), 2) := by decide +kernel
theorem dX11_search_162 : decode cX11_search 162 = .ok (.ireturn, 1) := by decide +kernel
theorem dX11_search_163 : decode cX11_search 163 = .ok (.aload_n 0, 1) := by decide +kernel
theorem dX11_search_164 : decode cX11_search 164 = .ok (.dup, 1) := by decide +kernel
theorem dX11_search_165 : decode cX11_search 165 = .ok (.getfield 239, 3) := by decide +kernel
theorem dX11_search_168 : decode cX11_search 168 = .ok (.iconst 1, 1) := by decide +kernel
theorem dX11_search_169 : decode cX11_search 169 = .ok (.iadd, 1) := by decide +kernel
theorem dX11_search_170 : decode cX11_search 170 = .ok (.putfield 239, 3) := by decide +kernel
theorem dX11_search_173 : decode cX11_search 173 = .ok (.aload_n 0, 1) := by decide +kernel
theorem dX11_search_174 : decode cX11_search 174 = .ok (.iload 6, 2) := by decide +kernel
theorem dX11_search_176 : decode cX11_search 176 = .ok (.iload 5, 2) := by decide +kernel
theorem dX11_search_178 : decode cX11_search 178 = .ok (.invokevirtual 248, 3) := by decide +kernel
theorem dX11_search_181 : decode cX11_search 181 = .ok (.ifCond .ne 9, 3) := by decide +kernel
theorem dX11_search_184 : decode cX11_search 184 = .ok (.iinc 5 1, 3) := by decide +kernel
theorem dX11_search_187 : decode cX11_search 187 = .ok (.goto (-115), 3) := by decide +kernel
theorem dX11_search_190 : decode cX11_search 190 = .ok (.aload_n 0, 1) := by decide +kernel
theorem dX11_search_191 : decode cX11_search 191 = .ok (.getfield 17, 3) := by decide +kernel
theorem dX11_search_194 : decode cX11_search 194 = .ok (.bipush 29, 2) := by decide +kernel
theorem dX11_search_196 : decode cX11_search 196 = .ok (.iload 6, 2) := by decide +kernel
theorem dX11_search_198 : decode cX11_search 198 = .ok (.iadd, 1) := by decide +kernel
theorem dX11_search_199 : decode cX11_search 199 = .ok (.iload 5, 2) := by decide +kernel
theorem dX11_search_201 : decode cX11_search 201 = .ok (.iconst 1, 1) := by decide +kernel
theorem dX11_search_202 : decode cX11_search 202 = .ok (.iadd, 1) := by decide +kernel
theorem dX11_search_203 : decode cX11_search 203 = .ok (.iastore, 1) := by decide +kernel
theorem dX11_search_204 : decode cX11_search 204 = .ok (.iinc 4 1, 3) := by decide +kernel
theorem dX11_search_207 : decode cX11_search 207 = .ok (.iconst 0, 1) := by decide +kernel
theorem dX11_search_208 : decode cX11_search 208 = .ok (.istore 5, 2) := by decide +kernel
theorem dX11_search_210 : decode cX11_search 210 = .ok (.aload_n 0, 1) := by decide +kernel
theorem dX11_search_211 : decode cX11_search 211 = .ok (.aload_n 0, 1) := by decide +kernel
theorem dX11_search_212 : decode cX11_search 212 = .ok (.getfield 242, 3) := by decide +kernel
theorem dX11_search_215 : decode cX11_search 215 = .ok (.iload 4, 2) := by decide +kernel
theorem dX11_search_217 : decode cX11_search 217 = .ok (.iload_n 3, 1) := by decide +kernel
theorem dX11_search_218 : decode cX11_search 218 = .ok (.if_icmp .ne 7, 3) := by decide +kernel
theorem dX11_search_221 : decode cX11_search 221 = .ok (.iload_n 1, 1) := by decide +kernel
theorem dX11_search_222 : decode cX11_search 222 = .ok (.goto 12, 3) := by decide +kernel
theorem dX11_search_225 : decode cX11_search 225 = .ok (.aload_n 0, 1) := by decide +kernel
theorem dX11_search_226 : decode cX11_search 226 = .ok (.getfield 54, 3) := by decide +kernel
theorem dX11_search_229 : decode cX11_search 229 = .ok (.iload 4, 2) := by decide +kernel
theorem dX11_search_231 : decode cX11_search 231 = .ok (.iaload, 1) := by decide +kernel
theorem dX11_search_232 : decode cX11_search 232 = .ok (.iconst 1, 1) := by decide +kernel
theorem dX11_search_233 : decode cX11_search 233 = .ok (.isub, 1) := by decide +kernel
theorem dX11_search_234 : decode cX11_search 234 = .ok (.invokestatic 209, 3) := by decide +kernel
theorem dX11_search_237 : decode cX11_search 237 = .ok (.putfield 242, 3) := by decide +kernel
theorem dX11_search_240 : decode cX11_search 240 = .ok (.goto (-168), 3) := by decide +kernel
theorem dX11_search_243 : decode cX11_search 243 = .ok (.aload_n 0, 1) := by decide +kernel
theorem dX11_search_244 : decode cX11_search 244 = .ok (.getfield 239, 3) := by decide +kernel
theorem dX11_search_247 : decode cX11_search 247 = .ok (.ireturn, 1) := by decide +kernel
set_option maxRecDepth 20000 in
theorem ggX11_weightWith_X11_colourAll : GoodIn wsX11_weightWith wsX11_colourAll := goodIn_r _ [8, 9, 10, 11, 12, 13, 7, 14, 1, 40, 41, 42, 43, 44, 45, 46, 47, 48, 49, 50, 51, 52, 53, 54, 55, 56, 57, 58, 59, 60, 61, 62, 63, 64, 65, 66, 67] (by decide +kernel) (by decide +kernel)
set_option maxRecDepth 20000 in
theorem gX11_weightWith_X11_colourAll : GoodIn wsX11_weightWith (wsV RX11 230 RX11 yX11_colourAll wsX11_colourAll) := goodIn_app (goodIn_of _ (by decide +kernel)) ggX11_weightWith_X11_colourAll
set_option maxRecDepth 20000 in
theorem ggX11_weightWith_X11_weightOf : GoodIn wsX11_weightWith wsX11_weightOf := goodIn_r _ [18, 1, 19, 20, 21, 22, 23, 24, 7, 25, 9, 10, 26, 27, 28, 29, 30, 31, 32, 33, 34, 35, 36, 37, 38, 39, 40, 41, 42, 43, 44, 45, 46, 47, 48, 49, 50, 51, 52, 53, 54, 55, 56, 57, 58, 59, 60, 61, 62, 63, 64, 65, 66, 67] (by decide +kernel) (by decide +kernel)
set_option maxRecDepth 20000 in
theorem gX11_weightWith_X11_weightOf : GoodIn wsX11_weightWith (wsV RX11 233 RX11 yX11_weightOf wsX11_weightOf) := goodIn_app (goodIn_of _ (by decide +kernel)) ggX11_weightWith_X11_weightOf
theorem dX11_weightWith_0 : decode cX11_weightWith 0 = .ok (.aload_n 0, 1) := by decide +kernel
theorem dX11_weightWith_1 : decode cX11_weightWith 1 = .ok (.getfield 17, 3) := by decide +kernel
theorem dX11_weightWith_4 : decode cX11_weightWith 4 = .ok (.bipush 29, 2) := by decide +kernel
theorem dX11_weightWith_6 : decode cX11_weightWith 6 = .ok (.iload_n 1, 1) := by decide +kernel
theorem dX11_weightWith_7 : decode cX11_weightWith 7 = .ok (.iadd, 1) := by decide +kernel
theorem dX11_weightWith_8 : decode cX11_weightWith 8 = .ok (.iaload, 1) := by decide +kernel
theorem dX11_weightWith_9 : decode cX11_weightWith 9 = .ok (.istore_n 3, 1) := by decide +kernel
theorem dX11_weightWith_10 : decode cX11_weightWith 10 = .ok (.iconst 0, 1) := by decide +kernel
theorem dX11_weightWith_11 : decode cX11_weightWith 11 = .ok (.istore 4, 2) := by decide +kernel
theorem dX11_weightWith_13 : decode cX11_weightWith 13 = .ok (.aload_n 0, 1) := by decide +kernel
theorem dX11_weightWith_14 : decode cX11_weightWith 14 = .ok (.getfield 17, 3) := by decide +kernel
theorem dX11_weightWith_17 : decode cX11_weightWith 17 = .ok (.bipush 29, 2) := by decide +kernel
theorem dX11_weightWith_19 : decode cX11_weightWith 19 = .ok (.iload_n 1, 1) := by decide +kernel
theorem dX11_weightWith_20 : decode cX11_weightWith 20 = .ok (.iadd, 1) := by decide +kernel
theorem dX11_weightWith_21 : decode cX11_weightWith 21 = .ok (.iload_n 2, 1) := by decide +kernel
theorem dX11_weightWith_22 : decode cX11_weightWith 22 = .ok (.iconst 1, 1) := by decide +kernel
theorem dX11_weightWith_23 : decode cX11_weightWith 23 = .ok (.iadd, 1) := by decide +kernel
theorem dX11_weightWith_24 : decode cX11_weightWith 24 = .ok (.iastore, 1) := by decide +kernel
theorem dX11_weightWith_25 : decode cX11_weightWith 25 = .ok (.aload_n 0, 1) := by decide +kernel
theorem dX11_weightWith_26 : decode cX11_weightWith 26 = .ok (.getfield 44, 3) := by decide +kernel
theorem dX11_weightWith_29 : decode cX11_weightWith 29 = .ok (.iload_n 1, 1) := by decide +kernel
theorem dX11_weightWith_30 : decode cX11_weightWith 30 = .ok (.iaload, 1) := by decide +kernel
theorem dX11_weightWith_31 : decode cX11_weightWith 31 = .ok (.istore 5, 2) := by decide +kernel
theorem dX11_weightWith_33 : decode cX11_weightWith 33 = .ok (.iload 5, 2) := by decide +kernel
theorem dX11_weightWith_35 : decode cX11_weightWith 35 = .ok (.aload_n 0, 1) := by decide +kernel
theorem dX11_weightWith_36 : decode cX11_weightWith 36 = .ok (.getfield 44, 3) := by decide +kernel
theorem dX11_weightWith_39 : decode cX11_weightWith 39 = .ok (.iload_n 1, 1) := by decide +kernel
theorem dX11_weightWith_40 : decode cX11_weightWith 40 = .ok (.iconst 1, 1) := by decide +kernel
theorem dX11_weightWith_41 : decode cX11_weightWith 41 = .ok (.iadd, 1) := by decide +kernel
theorem dX11_weightWith_42 : decode cX11_weightWith 42 = .ok (.iaload, 1) := by decide +kernel
theorem dX11_weightWith_43 : decode cX11_weightWith 43 = .ok (.if_icmp .ge 41, 3) := by decide +kernel
theorem dX11_weightWith_46 : decode cX11_weightWith 46 = .ok (.aload_n 0, 1) := by decide +kernel
theorem dX11_weightWith_47 : decode cX11_weightWith 47 = .ok (.aload_n 0, 1) := by decide +kernel
theorem dX11_weightWith_48 : decode cX11_weightWith 48 = .ok (.getfield 47, 3) := by decide +kernel
theorem dX11_weightWith_51 : decode cX11_weightWith 51 = .ok (.iload 5, 2) := by decide +kernel
theorem dX11_weightWith_53 : decode cX11_weightWith 53 = .ok (.iaload, 1) := by decide +kernel
theorem dX11_weightWith_54 : decode cX11_weightWith 54 = .ok (.invokevirtual 230, 3) := by decide +kernel
theorem dX11_weightWith_57 : decode cX11_weightWith 57 = .ok (.iconst (-1), 1) := by decide +kernel
theorem dX11_weightWith_58 : decode cX11_weightWith 58 = .ok (.if_icmp .eq 20, 3) := by decide +kernel
theorem dX11_weightWith_61 : decode cX11_weightWith 61 = .ok (.iload 4, 2) := by decide +kernel
theorem dX11_weightWith_63 : decode cX11_weightWith 63 = .ok (.aload_n 0, 1) := by decide +kernel
theorem dX11_weightWith_64 : decode cX11_weightWith 64 = .ok (.aload_n 0, 1) := by decide +kernel
theorem dX11_weightWith_65 : decode cX11_weightWith 65 = .ok (.getfield 47, 3) := by decide +kernel
theorem dX11_weightWith_68 : decode cX11_weightWith 68 = .ok (.iload 5, 2) := by decide +kernel
theorem dX11_weightWith_70 : decode cX11_weightWith 70 = .ok (.iaload, 1) := by decide +kernel
theorem dX11_weightWith_71 : decode cX11_weightWith 71 = .ok (.iload_n 2, 1) := by decide +kernel
theorem dX11_weightWith_72 : decode cX11_weightWith 72 = .ok (.invokevirtual 233, 3) := by decide +kernel
theorem dX11_weightWith_75 : decode cX11_weightWith 75 = .ok (.iadd, 1) := by decide +kernel
theorem dX11_weightWith_76 : decode cX11_weightWith 76 = .ok (.istore 4, 2) := by decide +kernel
theorem dX11_weightWith_78 : decode cX11_weightWith 78 = .ok (.iinc 5 1, 3) := by decide +kernel
theorem dX11_weightWith_81 : decode cX11_weightWith 81 = .ok (.goto (-48), 3) := by decide +kernel
theorem dX11_weightWith_84 : decode cX11_weightWith 84 = .ok (.aload_n 0, 1) := by decide +kernel
theorem dX11_weightWith_85 : decode cX11_weightWith 85 = .ok (.getfield 17, 3) := by decide +kernel
theorem dX11_weightWith_88 : decode cX11_weightWith 88 = .ok (.bipush 29, 2) := by decide +kernel
theorem dX11_weightWith_90 : decode cX11_weightWith 90 = .ok (.iload_n 1, 1) := by decide +kernel
theorem dX11_weightWith_91 : decode cX11_weightWith 91 = .ok (.iadd, 1) := by decide +kernel
theorem dX11_weightWith_92 : decode cX11_weightWith 92 = .ok (.iload_n 3, 1) := by decide +kernel
theorem dX11_weightWith_93 : decode cX11_weightWith 93 = .ok (.iastore, 1) := by decide +kernel
theorem dX11_weightWith_94 : decode cX11_weightWith 94 = .ok (.iload 4, 2) := by decide +kernel
theorem dX11_weightWith_96 : decode cX11_weightWith 96 = .ok (.ireturn, 1) := by decide +kernel
set_option maxRecDepth 20000 in
theorem ggX11_findStep_X11_colourOf : GoodIn wsX11_findStep wsX11_colourOf := goodIn_r _ [9, 2, 47, 48, 49, 50, 51, 52, 53, 54, 55, 56, 57, 58, 59, 60, 61, 62, 63, 64, 65, 66, 67, 68, 69, 70, 71, 72, 73, 74] (by decide +kernel) (by decide +kernel)
set_option maxRecDepth 20000 in
theorem gX11_findStep_X11_colourOf : GoodIn wsX11_findStep (wsV RX11 206 RX11 yX11_colourOf wsX11_colourOf) := goodIn_app (goodIn_of _ (by decide +kernel)) ggX11_findStep_X11_colourOf
set_option maxRecDepth 20000 in
theorem ggX11_findStep_X11_weightWith : GoodIn wsX11_findStep wsX11_weightWith := goodIn_r _ [13, 2, 14, 15, 16, 17, 18, 8, 19, 20, 21, 5, 6, 7, 9, 22, 23, 24, 25, 26, 27, 28, 29, 30, 31, 32, 33, 34, 35, 36, 37, 38, 39, 40, 41, 42, 43, 44, 45, 46, 47, 48, 49, 50, 51, 52, 53, 54, 55, 56, 57, 58, 59, 60, 61, 62, 63, 64, 65, 66, 67, 68, 69, 70, 71, 72, 73, 74] (by decide +kernel) (by decide +kernel)
set_option maxRecDepth 20000 in
theorem gX11_findStep_X11_weightWith : GoodIn wsX11_findStep (wsV RX11 252 RX11 yX11_weightWith wsX11_weightWith) := goodIn_app (goodIn_of _ (by decide +kernel)) ggX11_findStep_X11_weightWith
theorem dX11_findStep_0 : decode cX11_findStep 0 = .ok (.ldc 251, 2) := by decide +kernel
theorem dX11_findStep_2 : decode cX11_findStep 2 = .ok (.istore_n 1, 1) := by decide +kernel
theorem dX11_findStep_3 : decode cX11_findStep 3 = .ok (.iconst 1, 1) := by decide +kernel
theorem dX11_findStep_4 : decode cX11_findStep 4 = .ok (.istore_n 2, 1) := by decide +kernel
theorem dX11_findStep_5 : decode cX11_findStep 5 = .ok (.iload_n 2, 1) := by decide +kernel
theorem dX11_findStep_6 : decode cX11_findStep 6 = .ok (.aload_n 0, 1) := by decide +kernel
theorem dX11_findStep_7 : decode cX11_findStep 7 = .ok (.getfield 17, 3) := by decide +kernel
theorem dX11_findStep_10 : decode cX11_findStep 10 = .ok (.iconst 0, 1) := by decide +kernel
theorem dX11_findStep_11 : decode cX11_findStep 11 = .ok (.iaload, 1) := by decide +kernel
theorem dX11_findStep_12 : decode cX11_findStep 12 = .ok (.if_icmp .gt 112, 3) := by decide +kernel
theorem dX11_findStep_15 : decode cX11_findStep 15 = .ok (.aload_n 0, 1) := by decide +kernel
theorem dX11_findStep_16 : decode cX11_findStep 16 = .ok (.iload_n 2, 1) := by decide +kernel
theorem dX11_findStep_17 : decode cX11_findStep 17 = .ok (.invokevirtual 206, 3) := by decide +kernel
theorem dX11_findStep_20 : decode cX11_findStep 20 = .ok (.iconst (-1), 1) := by decide +kernel
theorem dX11_findStep_21 : decode cX11_findStep 21 = .ok (.if_icmp .eq 97, 3) := by decide +kernel
theorem dX11_findStep_24 : decode cX11_findStep 24 = .ok (.aload_n 0, 1) := by decide +kernel
theorem dX11_findStep_25 : decode cX11_findStep 25 = .ok (.getfield 17, 3) := by decide +kernel
theorem dX11_findStep_28 : decode cX11_findStep 28 = .ok (.bipush 70, 2) := by decide +kernel
theorem dX11_findStep_30 : decode cX11_findStep 30 = .ok (.iload_n 2, 1) := by decide +kernel
theorem dX11_findStep_31 : decode cX11_findStep 31 = .ok (.iadd, 1) := by decide +kernel
theorem dX11_findStep_32 : decode cX11_findStep 32 = .ok (.iaload, 1) := by decide +kernel
theorem dX11_findStep_33 : decode cX11_findStep 33 = .ok (.iconst 1, 1) := by decide +kernel
theorem dX11_findStep_34 : decode cX11_findStep 34 = .ok (.if_icmp .ne 6, 3) := by decide +kernel
theorem dX11_findStep_37 : decode cX11_findStep 37 = .ok (.goto 81, 3) := by decide +kernel
theorem dX11_findStep_40 : decode cX11_findStep 40 = .ok (.aload_n 0, 1) := by decide +kernel
theorem dX11_findStep_41 : decode cX11_findStep 41 = .ok (.iload_n 2, 1) := by decide +kernel
theorem dX11_findStep_42 : decode cX11_findStep 42 = .ok (.aload_n 0, 1) := by decide +kernel
theorem dX11_findStep_43 : decode cX11_findStep 43 = .ok (.iload_n 2, 1) := by decide +kernel
theorem dX11_findStep_44 : decode cX11_findStep 44 = .ok (.invokevirtual 206, 3) := by decide +kernel
theorem dX11_findStep_47 : decode cX11_findStep 47 = .ok (.invokevirtual 252, 3) := by decide +kernel
theorem dX11_findStep_50 : decode cX11_findStep 50 = .ok (.istore_n 3, 1) := by decide +kernel
theorem dX11_findStep_51 : decode cX11_findStep 51 = .ok (.iconst 0, 1) := by decide +kernel
theorem dX11_findStep_52 : decode cX11_findStep 52 = .ok (.istore 4, 2) := by decide +kernel
theorem dX11_findStep_54 : decode cX11_findStep 54 = .ok (.iload 4, 2) := by decide +kernel
theorem dX11_findStep_56 : decode cX11_findStep 56 = .ok (.aload_n 0, 1) := by decide +kernel
theorem dX11_findStep_57 : decode cX11_findStep 57 = .ok (.getfield 17, 3) := by decide +kernel
theorem dX11_findStep_60 : decode cX11_findStep 60 = .ok (.iconst 1, 1) := by decide +kernel
theorem dX11_findStep_61 : decode cX11_findStep 61 = .ok (.iaload, 1) := by decide +kernel
theorem dX11_findStep_62 : decode cX11_findStep 62 = .ok (.if_icmp .ge 56, 3) := by decide +kernel
theorem dX11_findStep_65 : decode cX11_findStep 65 = .ok (.iload 4, 2) := by decide +kernel
theorem dX11_findStep_67 : decode cX11_findStep 67 = .ok (.aload_n 0, 1) := by decide +kernel
theorem dX11_findStep_68 : decode cX11_findStep 68 = .ok (.iload_n 2, 1) := by decide +kernel
theorem dX11_findStep_69 : decode cX11_findStep 69 = .ok (.invokevirtual 206, 3) := by decide +kernel
theorem dX11_findStep_72 : decode cX11_findStep 72 = .ok (.if_icmp .ne 6, 3) := by decide +kernel
theorem dX11_findStep_75 : decode cX11_findStep 75 = .ok (.goto 37, 3) := by decide +kernel
theorem dX11_findStep_78 : decode cX11_findStep 78 = .ok (.iload_n 3, 1) := by decide +kernel
theorem dX11_findStep_79 : decode cX11_findStep 79 = .ok (.aload_n 0, 1) := by decide +kernel
theorem dX11_findStep_80 : decode cX11_findStep 80 = .ok (.iload_n 2, 1) := by decide +kernel
theorem dX11_findStep_81 : decode cX11_findStep 81 = .ok (.iload 4, 2) := by decide +kernel
theorem dX11_findStep_83 : decode cX11_findStep 83 = .ok (.invokevirtual 252, 3) := by decide +kernel
theorem dX11_findStep_86 : decode cX11_findStep 86 = .ok (.isub, 1) := by decide +kernel
theorem dX11_findStep_87 : decode cX11_findStep 87 = .ok (.istore 5, 2) := by decide +kernel
theorem dX11_findStep_89 : decode cX11_findStep 89 = .ok (.iload 5, 2) := by decide +kernel
theorem dX11_findStep_91 : decode cX11_findStep 91 = .ok (.iload_n 1, 1) := by decide +kernel
theorem dX11_findStep_92 : decode cX11_findStep 92 = .ok (.if_icmp .gt 6, 3) := by decide +kernel
theorem dX11_findStep_95 : decode cX11_findStep 95 = .ok (.goto 17, 3) := by decide +kernel
theorem dX11_findStep_98 : decode cX11_findStep 98 = .ok (.iload 5, 2) := by decide +kernel
theorem dX11_findStep_100 : decode cX11_findStep 100 = .ok (.istore_n 1, 1) := by decide +kernel
theorem dX11_findStep_101 : decode cX11_findStep 101 = .ok (.aload_n 0, 1) := by decide +kernel
theorem dX11_findStep_102 : decode cX11_findStep 102 = .ok (.iload_n 2, 1) := by decide +kernel
theorem dX11_findStep_103 : decode cX11_findStep 103 = .ok (.putfield 255, 3) := by decide +kernel
theorem dX11_findStep_106 : decode cX11_findStep 106 = .ok (.aload_n 0, 1) := by decide +kernel
theorem dX11_findStep_107 : decode cX11_findStep 107 = .ok (.iload 4, 2) := by decide +kernel
theorem dX11_findStep_109 : decode cX11_findStep 109 = .ok (.putfield 258, 3) := by decide +kernel
theorem dX11_findStep_112 : decode cX11_findStep 112 = .ok (.iinc 4 1, 3) := by decide +kernel
theorem dX11_findStep_115 : decode cX11_findStep 115 = .ok (.goto (-61), 3) := by decide +kernel
theorem dX11_findStep_118 : decode cX11_findStep 118 = .ok (.iinc 2 1, 3) := by decide +kernel
theorem dX11_findStep_121 : decode cX11_findStep 121 = .ok (.goto (-116), 3) := by decide +kernel
theorem dX11_findStep_124 : decode cX11_findStep 124 = .ok (.iload_n 1, 1) := by decide +kernel
theorem dX11_findStep_125 : decode cX11_findStep 125 = .ok (.ireturn, 1) := by decide +kernel
set_option maxRecDepth 20000 in
theorem ggX11_noNumber_X11_in : GoodIn wsX11_noNumber wsX11_in := goodIn_r _ [5] (by decide +kernel) (by decide +kernel)
set_option maxRecDepth 20000 in
theorem gX11_noNumber_X11_in : GoodIn wsX11_noNumber (va_wsS RX11 79 yX11_in wsX11_in) := goodIn_app (goodIn_of _ (by decide +kernel)) ggX11_noNumber_X11_in
set_option maxRecDepth 20000 in
theorem ggX11_noNumber_X11_fails : GoodIn wsX11_noNumber wsX11_fails := goodIn_r _ [9, 10, 11, 12, 13, 14, 15, 16, 17, 18, 19, 20, 21, 22, 23, 24, 25, 26, 27, 28, 29, 30, 31, 32, 33, 34, 35, 36, 37, 38] (by decide +kernel) (by decide +kernel)
set_option maxRecDepth 20000 in
theorem gX11_noNumber_X11_fails : GoodIn wsX11_noNumber (wsV RX11 170 RX11 yX11_fails wsX11_fails) := goodIn_app (goodIn_of _ (by decide +kernel)) ggX11_noNumber_X11_fails
theorem dX11_noNumber_0 : decode cX11_noNumber 0 = .ok (.aload_n 0, 1) := by decide +kernel
theorem dX11_noNumber_1 : decode cX11_noNumber 1 = .ok (.iload_n 1, 1) := by decide +kernel
theorem dX11_noNumber_2 : decode cX11_noNumber 2 = .ok (.iconst 1, 1) := by decide +kernel
theorem dX11_noNumber_3 : decode cX11_noNumber 3 = .ok (.aload_n 0, 1) := by decide +kernel
theorem dX11_noNumber_4 : decode cX11_noNumber 4 = .ok (.getfield 17, 3) := by decide +kernel
theorem dX11_noNumber_7 : decode cX11_noNumber 7 = .ok (.iconst 0, 1) := by decide +kernel
theorem dX11_noNumber_8 : decode cX11_noNumber 8 = .ok (.iaload, 1) := by decide +kernel
theorem dX11_noNumber_9 : decode cX11_noNumber 9 = .ok (.invokestatic 79, 3) := by decide +kernel
theorem dX11_noNumber_12 : decode cX11_noNumber 12 = .ok (.ifCond .ne 7, 3) := by decide +kernel
theorem dX11_noNumber_15 : decode cX11_noNumber 15 = .ok (.iconst 1, 1) := by decide +kernel
theorem dX11_noNumber_16 : decode cX11_noNumber 16 = .ok (.goto 4, 3) := by decide +kernel
theorem dX11_noNumber_19 : decode cX11_noNumber 19 = .ok (.iconst 0, 1) := by decide +kernel
theorem dX11_noNumber_20 : decode cX11_noNumber 20 = .ok (.iconst 1, 1) := by decide +kernel
theorem dX11_noNumber_21 : decode cX11_noNumber 21 = .ok (.invokevirtual 170, 3) := by decide +kernel
theorem dX11_noNumber_24 : decode cX11_noNumber 24 = .ok (.ireturn, 1) := by decide +kernel
set_option maxRecDepth 20000 in
theorem ggX11_noColour_X11_in : GoodIn wsX11_noColour wsX11_in := goodIn_r _ [5] (by decide +kernel) (by decide +kernel)
set_option maxRecDepth 20000 in
theorem gX11_noColour_X11_in : GoodIn wsX11_noColour (va_wsS RX11 79 yX11_in wsX11_in) := goodIn_app (goodIn_of _ (by decide +kernel)) ggX11_noColour_X11_in
set_option maxRecDepth 20000 in
theorem ggX11_noColour_X11_fails : GoodIn wsX11_noColour wsX11_fails := goodIn_r _ [9, 10, 11, 12, 13, 14, 15, 16, 17, 18, 19, 20, 21, 22, 23, 24, 25, 26, 27, 28, 29, 30, 31, 32, 33, 34, 35, 36, 37, 38] (by decide +kernel) (by decide +kernel)
set_option maxRecDepth 20000 in
theorem gX11_noColour_X11_fails : GoodIn wsX11_noColour (wsV RX11 170 RX11 yX11_fails wsX11_fails) := goodIn_app (goodIn_of _ (by decide +kernel)) ggX11_noColour_X11_fails
theorem dX11_noColour_0 : decode cX11_noColour 0 = .ok (.aload_n 0, 1) := by decide +kernel
theorem dX11_noColour_1 : decode cX11_noColour 1 = .ok (.iload_n 1, 1) := by decide +kernel
theorem dX11_noColour_2 : decode cX11_noColour 2 = .ok (.iload_n 2, 1) := by decide +kernel
theorem dX11_noColour_3 : decode cX11_noColour 3 = .ok (.aload_n 0, 1) := by decide +kernel
theorem dX11_noColour_4 : decode cX11_noColour 4 = .ok (.getfield 17, 3) := by decide +kernel
theorem dX11_noColour_7 : decode cX11_noColour 7 = .ok (.iconst 1, 1) := by decide +kernel
theorem dX11_noColour_8 : decode cX11_noColour 8 = .ok (.iaload, 1) := by decide +kernel
theorem dX11_noColour_9 : decode cX11_noColour 9 = .ok (.iconst 1, 1) := by decide +kernel
theorem dX11_noColour_10 : decode cX11_noColour 10 = .ok (.isub, 1) := by decide +kernel
theorem dX11_noColour_11 : decode cX11_noColour 11 = .ok (.invokestatic 79, 3) := by decide +kernel
theorem dX11_noColour_14 : decode cX11_noColour 14 = .ok (.ifCond .ne 7, 3) := by decide +kernel
theorem dX11_noColour_17 : decode cX11_noColour 17 = .ok (.iconst 1, 1) := by decide +kernel
theorem dX11_noColour_18 : decode cX11_noColour 18 = .ok (.goto 4, 3) := by decide +kernel
theorem dX11_noColour_21 : decode cX11_noColour 21 = .ok (.iconst 0, 1) := by decide +kernel
theorem dX11_noColour_22 : decode cX11_noColour 22 = .ok (.iconst 1, 1) := by decide +kernel
theorem dX11_noColour_23 : decode cX11_noColour 23 = .ok (.invokevirtual 170, 3) := by decide +kernel
theorem dX11_noColour_26 : decode cX11_noColour 26 = .ok (.ireturn, 1) := by decide +kernel
theorem dX11_numberCount_0 : decode cX11_numberCount 0 = .ok (.aload_n 0, 1) := by decide +kernel
theorem dX11_numberCount_1 : decode cX11_numberCount 1 = .ok (.iconst 0, 1) := by decide +kernel
theorem dX11_numberCount_2 : decode cX11_numberCount 2 = .ok (.putfield 57, 3) := by decide +kernel
theorem dX11_numberCount_5 : decode cX11_numberCount 5 = .ok (.aload_n 0, 1) := by decide +kernel
theorem dX11_numberCount_6 : decode cX11_numberCount 6 = .ok (.getfield 17, 3) := by decide +kernel
theorem dX11_numberCount_9 : decode cX11_numberCount 9 = .ok (.iconst 0, 1) := by decide +kernel
theorem dX11_numberCount_10 : decode cX11_numberCount 10 = .ok (.iaload, 1) := by decide +kernel
theorem dX11_numberCount_11 : decode cX11_numberCount 11 = .ok (.ireturn, 1) := by decide +kernel
theorem dX11_colourCount_0 : decode cX11_colourCount 0 = .ok (.aload_n 0, 1) := by decide +kernel
theorem dX11_colourCount_1 : decode cX11_colourCount 1 = .ok (.iconst 0, 1) := by decide +kernel
theorem dX11_colourCount_2 : decode cX11_colourCount 2 = .ok (.putfield 57, 3) := by decide +kernel
theorem dX11_colourCount_5 : decode cX11_colourCount 5 = .ok (.aload_n 0, 1) := by decide +kernel
theorem dX11_colourCount_6 : decode cX11_colourCount 6 = .ok (.getfield 17, 3) := by decide +kernel
theorem dX11_colourCount_9 : decode cX11_colourCount 9 = .ok (.iconst 1, 1) := by decide +kernel
theorem dX11_colourCount_10 : decode cX11_colourCount 10 = .ok (.iaload, 1) := by decide +kernel
theorem dX11_colourCount_11 : decode cX11_colourCount 11 = .ok (.ireturn, 1) := by decide +kernel
theorem dX11_ruleCount_0 : decode cX11_ruleCount 0 = .ok (.aload_n 0, 1) := by decide +kernel
theorem dX11_ruleCount_1 : decode cX11_ruleCount 1 = .ok (.iconst 0, 1) := by decide +kernel
theorem dX11_ruleCount_2 : decode cX11_ruleCount 2 = .ok (.putfield 57, 3) := by decide +kernel
theorem dX11_ruleCount_5 : decode cX11_ruleCount 5 = .ok (.aload_n 0, 1) := by decide +kernel
theorem dX11_ruleCount_6 : decode cX11_ruleCount 6 = .ok (.getfield 17, 3) := by decide +kernel
theorem dX11_ruleCount_9 : decode cX11_ruleCount 9 = .ok (.iconst 2, 1) := by decide +kernel
theorem dX11_ruleCount_10 : decode cX11_ruleCount 10 = .ok (.iaload, 1) := by decide +kernel
theorem dX11_ruleCount_11 : decode cX11_ruleCount 11 = .ok (.ireturn, 1) := by decide +kernel
set_option maxRecDepth 20000 in
theorem ggX11_solutions_X11_in : GoodIn wsX11_solutions wsX11_in := goodIn_r _ [7] (by decide +kernel) (by decide +kernel)
set_option maxRecDepth 20000 in
theorem gX11_solutions_X11_in : GoodIn wsX11_solutions (va_wsS RX11 79 yX11_in wsX11_in) := goodIn_app (goodIn_of _ (by decide +kernel)) ggX11_solutions_X11_in
set_option maxRecDepth 20000 in
theorem ggX11_solutions_X11_fails : GoodIn wsX11_solutions wsX11_fails := goodIn_r _ [11, 1, 12, 13, 14, 15, 16, 17, 18, 19, 20, 21, 22, 23, 24, 25, 26, 27, 28, 29, 30, 31, 32, 33, 34, 35, 36, 37, 38, 39] (by decide +kernel) (by decide +kernel)
set_option maxRecDepth 20000 in
theorem gX11_solutions_X11_fails : GoodIn wsX11_solutions (wsV RX11 170 RX11 yX11_fails wsX11_fails) := goodIn_app (goodIn_of _ (by decide +kernel)) ggX11_solutions_X11_fails
theorem dX11_solutions_0 : decode cX11_solutions 0 = .ok (.aload_n 0, 1) := by decide +kernel
theorem dX11_solutions_1 : decode cX11_solutions 1 = .ok (.iconst 0, 1) := by decide +kernel
theorem dX11_solutions_2 : decode cX11_solutions 2 = .ok (.putfield 57, 3) := by decide +kernel
theorem dX11_solutions_5 : decode cX11_solutions 5 = .ok (.aload_n 0, 1) := by decide +kernel
theorem dX11_solutions_6 : decode cX11_solutions 6 = .ok (.iload_n 1, 1) := by decide +kernel
theorem dX11_solutions_7 : decode cX11_solutions 7 = .ok (.iconst 0, 1) := by decide +kernel
theorem dX11_solutions_8 : decode cX11_solutions 8 = .ok (.aload_n 0, 1) := by decide +kernel
theorem dX11_solutions_9 : decode cX11_solutions 9 = .ok (.getfield 17, 3) := by decide +kernel
theorem dX11_solutions_12 : decode cX11_solutions 12 = .ok (.iconst 2, 1) := by decide +kernel
theorem dX11_solutions_13 : decode cX11_solutions 13 = .ok (.iaload, 1) := by decide +kernel
theorem dX11_solutions_14 : decode cX11_solutions 14 = .ok (.iconst 1, 1) := by decide +kernel
theorem dX11_solutions_15 : decode cX11_solutions 15 = .ok (.isub, 1) := by decide +kernel
theorem dX11_solutions_16 : decode cX11_solutions 16 = .ok (.invokestatic 79, 3) := by decide +kernel
theorem dX11_solutions_19 : decode cX11_solutions 19 = .ok (.ifCond .ne 7, 3) := by decide +kernel
theorem dX11_solutions_22 : decode cX11_solutions 22 = .ok (.iconst 1, 1) := by decide +kernel
theorem dX11_solutions_23 : decode cX11_solutions 23 = .ok (.goto 4, 3) := by decide +kernel
theorem dX11_solutions_26 : decode cX11_solutions 26 = .ok (.iconst 0, 1) := by decide +kernel
theorem dX11_solutions_27 : decode cX11_solutions 27 = .ok (.iconst 1, 1) := by decide +kernel
theorem dX11_solutions_28 : decode cX11_solutions 28 = .ok (.invokevirtual 170, 3) := by decide +kernel
theorem dX11_solutions_31 : decode cX11_solutions 31 = .ok (.ifCond .eq 7, 3) := by decide +kernel
theorem dX11_solutions_34 : decode cX11_solutions 34 = .ok (.iconst 0, 1) := by decide +kernel
theorem dX11_solutions_35 : decode cX11_solutions 35 = .ok (.goto 9, 3) := by decide +kernel
theorem dX11_solutions_38 : decode cX11_solutions 38 = .ok (.aload_n 0, 1) := by decide +kernel
theorem dX11_solutions_39 : decode cX11_solutions 39 = .ok (.getfield 41, 3) := by decide +kernel
theorem dX11_solutions_42 : decode cX11_solutions 42 = .ok (.iload_n 1, 1) := by decide +kernel
theorem dX11_solutions_43 : decode cX11_solutions 43 = .ok (.iaload, 1) := by decide +kernel
theorem dX11_solutions_44 : decode cX11_solutions 44 = .ok (.ireturn, 1) := by decide +kernel
set_option maxRecDepth 20000 in
theorem ggX11_colour_X11_noNumber : GoodIn wsX11_colour wsX11_noNumber := goodIn_r _ [6, 7, 8, 9, 5, 10, 11, 12, 13, 14, 1, 19, 20, 21, 22, 23, 24, 25, 26, 27, 28, 29, 30, 31, 32, 33, 34, 35, 36, 37, 38, 39, 40, 41, 42, 43, 44, 45, 46] (by decide +kernel) (by decide +kernel)
set_option maxRecDepth 20000 in
theorem gX11_colour_X11_noNumber : GoodIn wsX11_colour (wsV RX11 261 RX11 yX11_noNumber wsX11_noNumber) := goodIn_app (goodIn_of _ (by decide +kernel)) ggX11_colour_X11_noNumber
set_option maxRecDepth 20000 in
theorem ggX11_colour_X11_colourOf : GoodIn wsX11_colour wsX11_colourOf := goodIn_r _ [18, 7, 19, 20, 21, 22, 23, 24, 25, 26, 27, 28, 29, 30, 31, 32, 33, 34, 35, 36, 37, 38, 39, 40, 41, 42, 43, 44, 45, 46] (by decide +kernel) (by decide +kernel)
set_option maxRecDepth 20000 in
theorem gX11_colour_X11_colourOf : GoodIn wsX11_colour (wsV RX11 206 RX11 yX11_colourOf wsX11_colourOf) := goodIn_app (goodIn_of _ (by decide +kernel)) ggX11_colour_X11_colourOf
theorem dX11_colour_0 : decode cX11_colour 0 = .ok (.aload_n 0, 1) := by decide +kernel
theorem dX11_colour_1 : decode cX11_colour 1 = .ok (.iconst 0, 1) := by decide +kernel
theorem dX11_colour_2 : decode cX11_colour 2 = .ok (.putfield 57, 3) := by decide +kernel
theorem dX11_colour_5 : decode cX11_colour 5 = .ok (.aload_n 0, 1) := by decide +kernel
theorem dX11_colour_6 : decode cX11_colour 6 = .ok (.iload_n 1, 1) := by decide +kernel
theorem dX11_colour_7 : decode cX11_colour 7 = .ok (.invokevirtual 261, 3) := by decide +kernel
theorem dX11_colour_10 : decode cX11_colour 10 = .ok (.ifCond .eq 7, 3) := by decide +kernel
theorem dX11_colour_13 : decode cX11_colour 13 = .ok (.iconst 0, 1) := by decide +kernel
theorem dX11_colour_14 : decode cX11_colour 14 = .ok (.goto 8, 3) := by decide +kernel
theorem dX11_colour_17 : decode cX11_colour 17 = .ok (.aload_n 0, 1) := by decide +kernel
theorem dX11_colour_18 : decode cX11_colour 18 = .ok (.iload_n 1, 1) := by decide +kernel
theorem dX11_colour_19 : decode cX11_colour 19 = .ok (.invokevirtual 206, 3) := by decide +kernel
theorem dX11_colour_22 : decode cX11_colour 22 = .ok (.ireturn, 1) := by decide +kernel
set_option maxRecDepth 20000 in
theorem ggX11_isFixed_X11_noNumber : GoodIn wsX11_isFixed wsX11_noNumber := goodIn_r _ [7, 2, 8, 9, 6, 10, 11, 12, 13, 14, 1, 15, 16, 17, 18, 19, 20, 21, 22, 23, 24, 25, 26, 27, 28, 29, 30, 31, 32, 33, 34, 35, 36, 37, 38, 39, 40, 41, 42] (by decide +kernel) (by decide +kernel)
set_option maxRecDepth 20000 in
theorem gX11_isFixed_X11_noNumber : GoodIn wsX11_isFixed (wsV RX11 261 RX11 yX11_noNumber wsX11_noNumber) := goodIn_app (goodIn_of _ (by decide +kernel)) ggX11_isFixed_X11_noNumber
theorem dX11_isFixed_0 : decode cX11_isFixed 0 = .ok (.aload_n 0, 1) := by decide +kernel
theorem dX11_isFixed_1 : decode cX11_isFixed 1 = .ok (.iconst 0, 1) := by decide +kernel
theorem dX11_isFixed_2 : decode cX11_isFixed 2 = .ok (.putfield 57, 3) := by decide +kernel
theorem dX11_isFixed_5 : decode cX11_isFixed 5 = .ok (.aload_n 0, 1) := by decide +kernel
theorem dX11_isFixed_6 : decode cX11_isFixed 6 = .ok (.iload_n 1, 1) := by decide +kernel
theorem dX11_isFixed_7 : decode cX11_isFixed 7 = .ok (.invokevirtual 261, 3) := by decide +kernel
theorem dX11_isFixed_10 : decode cX11_isFixed 10 = .ok (.ifCond .ne 20, 3) := by decide +kernel
theorem dX11_isFixed_13 : decode cX11_isFixed 13 = .ok (.aload_n 0, 1) := by decide +kernel
theorem dX11_isFixed_14 : decode cX11_isFixed 14 = .ok (.getfield 17, 3) := by decide +kernel
theorem dX11_isFixed_17 : decode cX11_isFixed 17 = .ok (.bipush 70, 2) := by decide +kernel
theorem dX11_isFixed_19 : decode cX11_isFixed 19 = .ok (.iload_n 1, 1) := by decide +kernel
theorem dX11_isFixed_20 : decode cX11_isFixed 20 = .ok (.iadd, 1) := by decide +kernel
theorem dX11_isFixed_21 : decode cX11_isFixed 21 = .ok (.iaload, 1) := by decide +kernel
theorem dX11_isFixed_22 : decode cX11_isFixed 22 = .ok (.iconst 1, 1) := by decide +kernel
theorem dX11_isFixed_23 : decode cX11_isFixed 23 = .ok (.if_icmp .ne 7, 3) := by decide +kernel
theorem dX11_isFixed_26 : decode cX11_isFixed 26 = .ok (.iconst 1, 1) := by decide +kernel
theorem dX11_isFixed_27 : decode cX11_isFixed 27 = .ok (.goto 4, 3) := by decide +kernel
theorem dX11_isFixed_30 : decode cX11_isFixed 30 = .ok (.iconst 0, 1) := by decide +kernel
theorem dX11_isFixed_31 : decode cX11_isFixed 31 = .ok (.ireturn, 1) := by decide +kernel
set_option maxRecDepth 20000 in
theorem ggX11_count_X11_noColour : GoodIn wsX11_count wsX11_noColour := goodIn_r _ [7, 2, 8, 9, 6, 10, 11, 12, 13, 14, 1, 19, 20, 21, 22, 23, 24, 25, 26, 27, 28, 29, 30, 31, 32, 33, 34, 35, 36, 37, 38, 39, 40, 41, 42, 43, 44, 45, 46] (by decide +kernel) (by decide +kernel)
set_option maxRecDepth 20000 in
theorem gX11_count_X11_noColour : GoodIn wsX11_count (wsV RX11 264 RX11 yX11_noColour wsX11_noColour) := goodIn_app (goodIn_of _ (by decide +kernel)) ggX11_count_X11_noColour
set_option maxRecDepth 20000 in
theorem ggX11_count_X11_colourOf : GoodIn wsX11_count wsX11_colourOf := goodIn_r _ [18, 2, 19, 20, 21, 22, 23, 24, 25, 26, 27, 28, 29, 30, 31, 32, 33, 34, 35, 36, 37, 38, 39, 40, 41, 42, 43, 44, 45, 46] (by decide +kernel) (by decide +kernel)
set_option maxRecDepth 20000 in
theorem gX11_count_X11_colourOf : GoodIn wsX11_count (wsV RX11 206 RX11 yX11_colourOf wsX11_colourOf) := goodIn_app (goodIn_of _ (by decide +kernel)) ggX11_count_X11_colourOf
theorem dX11_count_0 : decode cX11_count 0 = .ok (.aload_n 0, 1) := by decide +kernel
theorem dX11_count_1 : decode cX11_count 1 = .ok (.iconst 0, 1) := by decide +kernel
theorem dX11_count_2 : decode cX11_count 2 = .ok (.putfield 57, 3) := by decide +kernel
theorem dX11_count_5 : decode cX11_count 5 = .ok (.aload_n 0, 1) := by decide +kernel
theorem dX11_count_6 : decode cX11_count 6 = .ok (.iload_n 1, 1) := by decide +kernel
theorem dX11_count_7 : decode cX11_count 7 = .ok (.iconst (-1), 1) := by decide +kernel
theorem dX11_count_8 : decode cX11_count 8 = .ok (.invokevirtual 264, 3) := by decide +kernel
theorem dX11_count_11 : decode cX11_count 11 = .ok (.ifCond .eq 5, 3) := by decide +kernel
theorem dX11_count_14 : decode cX11_count 14 = .ok (.iconst 0, 1) := by decide +kernel
theorem dX11_count_15 : decode cX11_count 15 = .ok (.ireturn, 1) := by decide +kernel
theorem dX11_count_16 : decode cX11_count 16 = .ok (.iconst 0, 1) := by decide +kernel
theorem dX11_count_17 : decode cX11_count 17 = .ok (.istore_n 2, 1) := by decide +kernel
theorem dX11_count_18 : decode cX11_count 18 = .ok (.iconst 1, 1) := by decide +kernel
theorem dX11_count_19 : decode cX11_count 19 = .ok (.istore_n 3, 1) := by decide +kernel
theorem dX11_count_20 : decode cX11_count 20 = .ok (.iload_n 3, 1) := by decide +kernel
theorem dX11_count_21 : decode cX11_count 21 = .ok (.aload_n 0, 1) := by decide +kernel
theorem dX11_count_22 : decode cX11_count 22 = .ok (.getfield 17, 3) := by decide +kernel
theorem dX11_count_25 : decode cX11_count 25 = .ok (.iconst 0, 1) := by decide +kernel
theorem dX11_count_26 : decode cX11_count 26 = .ok (.iaload, 1) := by decide +kernel
theorem dX11_count_27 : decode cX11_count 27 = .ok (.if_icmp .gt 26, 3) := by decide +kernel
theorem dX11_count_30 : decode cX11_count 30 = .ok (.iload_n 2, 1) := by decide +kernel
theorem dX11_count_31 : decode cX11_count 31 = .ok (.aload_n 0, 1) := by decide +kernel
theorem dX11_count_32 : decode cX11_count 32 = .ok (.iload_n 3, 1) := by decide +kernel
theorem dX11_count_33 : decode cX11_count 33 = .ok (.invokevirtual 206, 3) := by decide +kernel
theorem dX11_count_36 : decode cX11_count 36 = .ok (.iload_n 1, 1) := by decide +kernel
theorem dX11_count_37 : decode cX11_count 37 = .ok (.if_icmp .ne 7, 3) := by decide +kernel
theorem dX11_count_40 : decode cX11_count 40 = .ok (.iconst 1, 1) := by decide +kernel
theorem dX11_count_41 : decode cX11_count 41 = .ok (.goto 4, 3) := by decide +kernel
theorem dX11_count_44 : decode cX11_count 44 = .ok (.iconst 0, 1) := by decide +kernel
theorem dX11_count_45 : decode cX11_count 45 = .ok (.iadd, 1) := by decide +kernel
theorem dX11_count_46 : decode cX11_count 46 = .ok (.istore_n 2, 1) := by decide +kernel
theorem dX11_count_47 : decode cX11_count 47 = .ok (.iinc 3 1, 3) := by decide +kernel
theorem dX11_count_50 : decode cX11_count 50 = .ok (.goto (-30), 3) := by decide +kernel
theorem dX11_count_53 : decode cX11_count 53 = .ok (.iload_n 2, 1) := by decide +kernel
theorem dX11_count_54 : decode cX11_count 54 = .ok (.ireturn, 1) := by decide +kernel
set_option maxRecDepth 20000 in
theorem ggX11_conflicts_X11_countAll : GoodIn wsX11_conflicts wsX11_countAll := goodIn_r _ [6, 7, 8, 9, 10, 5, 11, 12, 13, 14, 15, 16, 17, 18, 19, 20, 21, 22, 23, 24, 25, 26, 27, 28, 29, 30, 31, 32, 33, 34, 35, 36, 37, 38, 39, 40, 41, 42, 43, 44, 45, 46] (by decide +kernel) (by decide +kernel)
set_option maxRecDepth 20000 in
theorem gX11_conflicts_X11_countAll : GoodIn wsX11_conflicts (wsV RX11 267 RX11 yX11_countAll wsX11_countAll) := goodIn_app (goodIn_of _ (by decide +kernel)) ggX11_conflicts_X11_countAll
theorem dX11_conflicts_0 : decode cX11_conflicts 0 = .ok (.aload_n 0, 1) := by decide +kernel
theorem dX11_conflicts_1 : decode cX11_conflicts 1 = .ok (.iconst 0, 1) := by decide +kernel
theorem dX11_conflicts_2 : decode cX11_conflicts 2 = .ok (.putfield 57, 3) := by decide +kernel
theorem dX11_conflicts_5 : decode cX11_conflicts 5 = .ok (.aload_n 0, 1) := by decide +kernel
theorem dX11_conflicts_6 : decode cX11_conflicts 6 = .ok (.invokevirtual 267, 3) := by decide +kernel
theorem dX11_conflicts_9 : decode cX11_conflicts 9 = .ok (.ireturn, 1) := by decide +kernel
set_option maxRecDepth 20000 in
theorem ggX11_totalWeight_X11_weightAll : GoodIn wsX11_totalWeight wsX11_weightAll := goodIn_r _ [6, 7, 8, 9, 10, 5, 11, 12, 13, 14, 15, 16, 17, 18, 19, 20, 21, 22, 23, 24, 25, 26, 27, 28, 29, 30, 31, 32, 33, 34, 35, 36, 37, 38, 39, 40, 41, 42, 43, 44, 45, 46, 47, 48, 49, 50, 51, 52, 53, 54, 55, 56, 57, 58, 59, 60, 61, 62, 63, 64, 65, 66, 67, 68, 69, 70, 71] (by decide +kernel) (by decide +kernel)
set_option maxRecDepth 20000 in
theorem gX11_totalWeight_X11_weightAll : GoodIn wsX11_totalWeight (wsV RX11 270 RX11 yX11_weightAll wsX11_weightAll) := goodIn_app (goodIn_of _ (by decide +kernel)) ggX11_totalWeight_X11_weightAll
theorem dX11_totalWeight_0 : decode cX11_totalWeight 0 = .ok (.aload_n 0, 1) := by decide +kernel
theorem dX11_totalWeight_1 : decode cX11_totalWeight 1 = .ok (.iconst 0, 1) := by decide +kernel
theorem dX11_totalWeight_2 : decode cX11_totalWeight 2 = .ok (.putfield 57, 3) := by decide +kernel
theorem dX11_totalWeight_5 : decode cX11_totalWeight 5 = .ok (.aload_n 0, 1) := by decide +kernel
theorem dX11_totalWeight_6 : decode cX11_totalWeight 6 = .ok (.invokevirtual 270, 3) := by decide +kernel
theorem dX11_totalWeight_9 : decode cX11_totalWeight 9 = .ok (.ireturn, 1) := by decide +kernel
set_option maxRecDepth 20000 in
theorem ggX11_conflict_X11_countAll : GoodIn wsX11_conflict wsX11_countAll := goodIn_r _ [7, 8, 9, 10, 11, 6, 12, 13, 14, 15, 16, 17, 18, 19, 51, 52, 53, 54, 55, 56, 57, 58, 59, 60, 61, 62, 63, 64, 65, 66, 67, 68, 69, 70, 71, 72, 73, 74, 75, 76, 77, 78] (by decide +kernel) (by decide +kernel)
set_option maxRecDepth 20000 in
theorem gX11_conflict_X11_countAll : GoodIn wsX11_conflict (wsV RX11 267 RX11 yX11_countAll wsX11_countAll) := goodIn_app (goodIn_of _ (by decide +kernel)) ggX11_conflict_X11_countAll
set_option maxRecDepth 20000 in
theorem ggX11_conflict_X11_in : GoodIn wsX11_conflict wsX11_in := goodIn_r _ [22] (by decide +kernel) (by decide +kernel)
set_option maxRecDepth 20000 in
theorem gX11_conflict_X11_in : GoodIn wsX11_conflict (va_wsS RX11 79 yX11_in wsX11_in) := goodIn_app (goodIn_of _ (by decide +kernel)) ggX11_conflict_X11_in
set_option maxRecDepth 20000 in
theorem ggX11_conflict_X11_fails : GoodIn wsX11_conflict wsX11_fails := goodIn_r _ [26, 1, 51, 52, 53, 54, 55, 56, 57, 58, 59, 60, 61, 62, 63, 64, 65, 66, 67, 68, 69, 70, 71, 72, 73, 74, 75, 76, 77, 78] (by decide +kernel) (by decide +kernel)
set_option maxRecDepth 20000 in
theorem gX11_conflict_X11_fails : GoodIn wsX11_conflict (wsV RX11 170 RX11 yX11_fails wsX11_fails) := goodIn_app (goodIn_of _ (by decide +kernel)) ggX11_conflict_X11_fails
set_option maxRecDepth 20000 in
theorem ggX11_conflict_X11_colourAll : GoodIn wsX11_conflict wsX11_colourAll := goodIn_r _ [12, 13, 14, 15, 16, 17, 6, 18, 19, 51, 52, 53, 54, 55, 56, 57, 58, 59, 60, 61, 62, 63, 64, 65, 66, 67, 68, 69, 70, 71, 72, 73, 74, 75, 76, 77, 78] (by decide +kernel) (by decide +kernel)
set_option maxRecDepth 20000 in
theorem gX11_conflict_X11_colourAll : GoodIn wsX11_conflict (wsV RX11 230 RX11 yX11_colourAll wsX11_colourAll) := goodIn_app (goodIn_of _ (by decide +kernel)) ggX11_conflict_X11_colourAll
set_option maxRecDepth 20000 in
theorem ggX11_conflict_X11_weightOf : GoodIn wsX11_conflict wsX11_weightOf := goodIn_r _ [30, 19, 31, 2, 32, 33, 34, 35, 6, 36, 13, 14, 37, 38, 39, 40, 41, 42, 43, 44, 45, 46, 47, 48, 49, 50, 51, 52, 53, 54, 55, 56, 57, 58, 59, 60, 61, 62, 63, 64, 65, 66, 67, 68, 69, 70, 71, 72, 73, 74, 75, 76, 77, 78] (by decide +kernel) (by decide +kernel)
set_option maxRecDepth 20000 in
theorem gX11_conflict_X11_weightOf : GoodIn wsX11_conflict (wsV RX11 233 RX11 yX11_weightOf wsX11_weightOf) := goodIn_app (goodIn_of _ (by decide +kernel)) ggX11_conflict_X11_weightOf
set_option maxRecDepth 20000 in
theorem ggX11_conflict_X11_extreme : GoodIn wsX11_conflict wsX11_extreme := goodIn_r _ [36, 13, 14, 37, 38, 6, 39, 40, 41, 42, 51, 52, 53, 54, 55, 56, 57, 58, 59, 60, 61, 62, 63, 64, 65, 66, 67, 68, 69, 70, 71, 72, 73, 74, 75, 76, 77, 78] (by decide +kernel) (by decide +kernel)
set_option maxRecDepth 20000 in
theorem gX11_conflict_X11_extreme : GoodIn wsX11_conflict (wsV RX11 220 RX11 yX11_extreme wsX11_extreme) := goodIn_app (goodIn_of _ (by decide +kernel)) ggX11_conflict_X11_extreme
theorem dX11_conflict_0 : decode cX11_conflict 0 = .ok (.aload_n 0, 1) := by decide +kernel
theorem dX11_conflict_1 : decode cX11_conflict 1 = .ok (.iconst 0, 1) := by decide +kernel
theorem dX11_conflict_2 : decode cX11_conflict 2 = .ok (.putfield 57, 3) := by decide +kernel
theorem dX11_conflict_5 : decode cX11_conflict 5 = .ok (.aload_n 0, 1) := by decide +kernel
theorem dX11_conflict_6 : decode cX11_conflict 6 = .ok (.iload_n 1, 1) := by decide +kernel
theorem dX11_conflict_7 : decode cX11_conflict 7 = .ok (.iconst 0, 1) := by decide +kernel
theorem dX11_conflict_8 : decode cX11_conflict 8 = .ok (.aload_n 0, 1) := by decide +kernel
theorem dX11_conflict_9 : decode cX11_conflict 9 = .ok (.invokevirtual 267, 3) := by decide +kernel
theorem dX11_conflict_12 : decode cX11_conflict 12 = .ok (.iconst 1, 1) := by decide +kernel
theorem dX11_conflict_13 : decode cX11_conflict 13 = .ok (.isub, 1) := by decide +kernel
theorem dX11_conflict_14 : decode cX11_conflict 14 = .ok (.invokestatic 79, 3) := by decide +kernel
theorem dX11_conflict_17 : decode cX11_conflict 17 = .ok (.ifCond .ne 7, 3) := by decide +kernel
theorem dX11_conflict_20 : decode cX11_conflict 20 = .ok (.iconst 1, 1) := by decide +kernel
theorem dX11_conflict_21 : decode cX11_conflict 21 = .ok (.goto 4, 3) := by decide +kernel
theorem dX11_conflict_24 : decode cX11_conflict 24 = .ok (.iconst 0, 1) := by decide +kernel
theorem dX11_conflict_25 : decode cX11_conflict 25 = .ok (.iconst 1, 1) := by decide +kernel
theorem dX11_conflict_26 : decode cX11_conflict 26 = .ok (.invokevirtual 170, 3) := by decide +kernel
theorem dX11_conflict_29 : decode cX11_conflict 29 = .ok (.ifCond .ne 25, 3) := by decide +kernel
theorem dX11_conflict_32 : decode cX11_conflict 32 = .ok (.aload_n 0, 1) := by decide +kernel
theorem dX11_conflict_33 : decode cX11_conflict 33 = .ok (.iload_n 2, 1) := by decide +kernel
theorem dX11_conflict_34 : decode cX11_conflict 34 = .ok (.iconst 0, 1) := by decide +kernel
theorem dX11_conflict_35 : decode cX11_conflict 35 = .ok (.iconst 4, 1) := by decide +kernel
theorem dX11_conflict_36 : decode cX11_conflict 36 = .ok (.invokestatic 79, 3) := by decide +kernel
theorem dX11_conflict_39 : decode cX11_conflict 39 = .ok (.ifCond .ne 7, 3) := by decide +kernel
theorem dX11_conflict_42 : decode cX11_conflict 42 = .ok (.iconst 1, 1) := by decide +kernel
theorem dX11_conflict_43 : decode cX11_conflict 43 = .ok (.goto 4, 3) := by decide +kernel
theorem dX11_conflict_46 : decode cX11_conflict 46 = .ok (.iconst 0, 1) := by decide +kernel
theorem dX11_conflict_47 : decode cX11_conflict 47 = .ok (.iconst 2, 1) := by decide +kernel
theorem dX11_conflict_48 : decode cX11_conflict 48 = .ok (.invokevirtual 170, 3) := by decide +kernel
theorem dX11_conflict_51 : decode cX11_conflict 51 = .ok (.ifCond .eq 5, 3) := by decide +kernel
theorem dX11_conflict_54 : decode cX11_conflict 54 = .ok (.iconst 0, 1) := by decide +kernel
theorem dX11_conflict_55 : decode cX11_conflict 55 = .ok (.ireturn, 1) := by decide +kernel
theorem dX11_conflict_56 : decode cX11_conflict 56 = .ok (.iconst 0, 1) := by decide +kernel
theorem dX11_conflict_57 : decode cX11_conflict 57 = .ok (.istore_n 3, 1) := by decide +kernel
theorem dX11_conflict_58 : decode cX11_conflict 58 = .ok (.iload_n 1, 1) := by decide +kernel
theorem dX11_conflict_59 : decode cX11_conflict 59 = .ok (.istore 4, 2) := by decide +kernel
theorem dX11_conflict_61 : decode cX11_conflict 61 = .ok (.aload_n 0, 1) := by decide +kernel
theorem dX11_conflict_62 : decode cX11_conflict 62 = .ok (.iload_n 3, 1) := by decide +kernel
theorem dX11_conflict_63 : decode cX11_conflict 63 = .ok (.invokevirtual 230, 3) := by decide +kernel
theorem dX11_conflict_66 : decode cX11_conflict 66 = .ok (.iconst (-1), 1) := by decide +kernel
theorem dX11_conflict_67 : decode cX11_conflict 67 = .ok (.if_icmp .eq 8, 3) := by decide +kernel
theorem dX11_conflict_70 : decode cX11_conflict 70 = .ok (.iload 4, 2) := by decide +kernel
theorem dX11_conflict_72 : decode cX11_conflict 72 = .ok (.ifCond .le 28, 3) := by decide +kernel
theorem dX11_conflict_75 : decode cX11_conflict 75 = .ok (.iload 4, 2) := by decide +kernel
theorem dX11_conflict_77 : decode cX11_conflict 77 = .ok (.aload_n 0, 1) := by decide +kernel
theorem dX11_conflict_78 : decode cX11_conflict 78 = .ok (.iload_n 3, 1) := by decide +kernel
theorem dX11_conflict_79 : decode cX11_conflict 79 = .ok (.invokevirtual 230, 3) := by decide +kernel
theorem dX11_conflict_82 : decode cX11_conflict 82 = .ok (.iconst (-1), 1) := by decide +kernel
theorem dX11_conflict_83 : decode cX11_conflict 83 = .ok (.if_icmp .ne 7, 3) := by decide +kernel
theorem dX11_conflict_86 : decode cX11_conflict 86 = .ok (.iconst 0, 1) := by decide +kernel
theorem dX11_conflict_87 : decode cX11_conflict 87 = .ok (.goto 4, 3) := by decide +kernel
theorem dX11_conflict_90 : decode cX11_conflict 90 = .ok (.iconst 1, 1) := by decide +kernel
theorem dX11_conflict_91 : decode cX11_conflict 91 = .ok (.isub, 1) := by decide +kernel
theorem dX11_conflict_92 : decode cX11_conflict 92 = .ok (.istore 4, 2) := by decide +kernel
theorem dX11_conflict_94 : decode cX11_conflict 94 = .ok (.iinc 3 1, 3) := by decide +kernel
theorem dX11_conflict_97 : decode cX11_conflict 97 = .ok (.goto (-36), 3) := by decide +kernel
theorem dX11_conflict_100 : decode cX11_conflict 100 = .ok (.iload_n 2, 1) := by decide +kernel
theorem dX11_conflict_101 : decode cX11_conflict 101 = .ok (.ifCond .ne 12, 3) := by decide +kernel
theorem dX11_conflict_104 : decode cX11_conflict 104 = .ok (.aload_n 0, 1) := by decide +kernel
theorem dX11_conflict_105 : decode cX11_conflict 105 = .ok (.getfield 38, 3) := by decide +kernel
theorem dX11_conflict_108 : decode cX11_conflict 108 = .ok (.iload_n 3, 1) := by decide +kernel
theorem dX11_conflict_109 : decode cX11_conflict 109 = .ok (.iaload, 1) := by decide +kernel
theorem dX11_conflict_110 : decode cX11_conflict 110 = .ok (.goto 49, 3) := by decide +kernel
theorem dX11_conflict_113 : decode cX11_conflict 113 = .ok (.iload_n 2, 1) := by decide +kernel
theorem dX11_conflict_114 : decode cX11_conflict 114 = .ok (.iconst 3, 1) := by decide +kernel
theorem dX11_conflict_115 : decode cX11_conflict 115 = .ok (.if_icmp .ne 11, 3) := by decide +kernel
theorem dX11_conflict_118 : decode cX11_conflict 118 = .ok (.aload_n 0, 1) := by decide +kernel
theorem dX11_conflict_119 : decode cX11_conflict 119 = .ok (.iload_n 3, 1) := by decide +kernel
theorem dX11_conflict_120 : decode cX11_conflict 120 = .ok (.invokevirtual 230, 3) := by decide +kernel
theorem dX11_conflict_123 : decode cX11_conflict 123 = .ok (.goto 36, 3) := by decide +kernel
theorem dX11_conflict_126 : decode cX11_conflict 126 = .ok (.iload_n 2, 1) := by decide +kernel
theorem dX11_conflict_127 : decode cX11_conflict 127 = .ok (.iconst 4, 1) := by decide +kernel
theorem dX11_conflict_128 : decode cX11_conflict 128 = .ok (.if_icmp .ne 16, 3) := by decide +kernel
theorem dX11_conflict_131 : decode cX11_conflict 131 = .ok (.aload_n 0, 1) := by decide +kernel
theorem dX11_conflict_132 : decode cX11_conflict 132 = .ok (.iload_n 3, 1) := by decide +kernel
theorem dX11_conflict_133 : decode cX11_conflict 133 = .ok (.aload_n 0, 1) := by decide +kernel
theorem dX11_conflict_134 : decode cX11_conflict 134 = .ok (.iload_n 3, 1) := by decide +kernel
theorem dX11_conflict_135 : decode cX11_conflict 135 = .ok (.invokevirtual 230, 3) := by decide +kernel
theorem dX11_conflict_138 : decode cX11_conflict 138 = .ok (.invokevirtual 233, 3) := by decide +kernel
theorem dX11_conflict_141 : decode cX11_conflict 141 = .ok (.goto 18, 3) := by decide +kernel
theorem dX11_conflict_144 : decode cX11_conflict 144 = .ok (.aload_n 0, 1) := by decide +kernel
theorem dX11_conflict_145 : decode cX11_conflict 145 = .ok (.iload_n 3, 1) := by decide +kernel
theorem dX11_conflict_146 : decode cX11_conflict 146 = .ok (.iload_n 2, 1) := by decide +kernel
theorem dX11_conflict_147 : decode cX11_conflict 147 = .ok (.iconst 1, 1) := by decide +kernel
theorem dX11_conflict_148 : decode cX11_conflict 148 = .ok (.if_icmp .ne 7, 3) := by decide +kernel
theorem dX11_conflict_151 : decode cX11_conflict 151 = .ok (.iconst 1, 1) := by decide +kernel
theorem dX11_conflict_152 : decode cX11_conflict 152 = .ok (.goto 4, 3) := by decide +kernel
theorem dX11_conflict_155 : decode cX11_conflict 155 = .ok (.iconst 0, 1) := by decide +kernel
theorem dX11_conflict_156 : decode cX11_conflict 156 = .ok (.invokevirtual 220, 3) := by decide +kernel
theorem dX11_conflict_159 : decode cX11_conflict 159 = .ok (.ireturn, 1) := by decide +kernel
set_option maxRecDepth 20000 in
theorem ggX11_conflictsOf_X11_noNumber : GoodIn wsX11_conflictsOf wsX11_noNumber := goodIn_r _ [8, 9, 10, 11, 7, 12, 13, 14, 15, 16, 1, 27, 28, 29, 30, 31, 32, 33, 34, 35, 36, 37, 38, 39, 40, 41, 42, 43, 44, 45, 46, 47, 48, 49, 50, 51, 52, 53, 54] (by decide +kernel) (by decide +kernel)
set_option maxRecDepth 20000 in
theorem gX11_conflictsOf_X11_noNumber : GoodIn wsX11_conflictsOf (wsV RX11 261 RX11 yX11_noNumber wsX11_noNumber) := goodIn_app (goodIn_of _ (by decide +kernel)) ggX11_conflictsOf_X11_noNumber
set_option maxRecDepth 20000 in
theorem ggX11_conflictsOf_X11_colourAll : GoodIn wsX11_conflictsOf wsX11_colourAll := goodIn_r _ [20, 21, 22, 23, 24, 25, 7, 26, 9, 27, 28, 29, 30, 31, 32, 33, 34, 35, 36, 37, 38, 39, 40, 41, 42, 43, 44, 45, 46, 47, 48, 49, 50, 51, 52, 53, 54] (by decide +kernel) (by decide +kernel)
set_option maxRecDepth 20000 in
theorem gX11_conflictsOf_X11_colourAll : GoodIn wsX11_conflictsOf (wsV RX11 230 RX11 yX11_colourAll wsX11_colourAll) := goodIn_app (goodIn_of _ (by decide +kernel)) ggX11_conflictsOf_X11_colourAll
theorem dX11_conflictsOf_0 : decode cX11_conflictsOf 0 = .ok (.aload_n 0, 1) := by decide +kernel
theorem dX11_conflictsOf_1 : decode cX11_conflictsOf 1 = .ok (.iconst 0, 1) := by decide +kernel
theorem dX11_conflictsOf_2 : decode cX11_conflictsOf 2 = .ok (.putfield 57, 3) := by decide +kernel
theorem dX11_conflictsOf_5 : decode cX11_conflictsOf 5 = .ok (.aload_n 0, 1) := by decide +kernel
theorem dX11_conflictsOf_6 : decode cX11_conflictsOf 6 = .ok (.iload_n 1, 1) := by decide +kernel
theorem dX11_conflictsOf_7 : decode cX11_conflictsOf 7 = .ok (.invokevirtual 261, 3) := by decide +kernel
theorem dX11_conflictsOf_10 : decode cX11_conflictsOf 10 = .ok (.ifCond .eq 5, 3) := by decide +kernel
theorem dX11_conflictsOf_13 : decode cX11_conflictsOf 13 = .ok (.iconst 0, 1) := by decide +kernel
theorem dX11_conflictsOf_14 : decode cX11_conflictsOf 14 = .ok (.ireturn, 1) := by decide +kernel
theorem dX11_conflictsOf_15 : decode cX11_conflictsOf 15 = .ok (.iconst 0, 1) := by decide +kernel
theorem dX11_conflictsOf_16 : decode cX11_conflictsOf 16 = .ok (.istore_n 2, 1) := by decide +kernel
theorem dX11_conflictsOf_17 : decode cX11_conflictsOf 17 = .ok (.aload_n 0, 1) := by decide +kernel
theorem dX11_conflictsOf_18 : decode cX11_conflictsOf 18 = .ok (.getfield 44, 3) := by decide +kernel
theorem dX11_conflictsOf_21 : decode cX11_conflictsOf 21 = .ok (.iload_n 1, 1) := by decide +kernel
theorem dX11_conflictsOf_22 : decode cX11_conflictsOf 22 = .ok (.iaload, 1) := by decide +kernel
theorem dX11_conflictsOf_23 : decode cX11_conflictsOf 23 = .ok (.istore_n 3, 1) := by decide +kernel
theorem dX11_conflictsOf_24 : decode cX11_conflictsOf 24 = .ok (.iload_n 3, 1) := by decide +kernel
theorem dX11_conflictsOf_25 : decode cX11_conflictsOf 25 = .ok (.aload_n 0, 1) := by decide +kernel
theorem dX11_conflictsOf_26 : decode cX11_conflictsOf 26 = .ok (.getfield 44, 3) := by decide +kernel
theorem dX11_conflictsOf_29 : decode cX11_conflictsOf 29 = .ok (.iload_n 1, 1) := by decide +kernel
theorem dX11_conflictsOf_30 : decode cX11_conflictsOf 30 = .ok (.iconst 1, 1) := by decide +kernel
theorem dX11_conflictsOf_31 : decode cX11_conflictsOf 31 = .ok (.iadd, 1) := by decide +kernel
theorem dX11_conflictsOf_32 : decode cX11_conflictsOf 32 = .ok (.iaload, 1) := by decide +kernel
theorem dX11_conflictsOf_33 : decode cX11_conflictsOf 33 = .ok (.if_icmp .ge 31, 3) := by decide +kernel
theorem dX11_conflictsOf_36 : decode cX11_conflictsOf 36 = .ok (.iload_n 2, 1) := by decide +kernel
theorem dX11_conflictsOf_37 : decode cX11_conflictsOf 37 = .ok (.aload_n 0, 1) := by decide +kernel
theorem dX11_conflictsOf_38 : decode cX11_conflictsOf 38 = .ok (.aload_n 0, 1) := by decide +kernel
theorem dX11_conflictsOf_39 : decode cX11_conflictsOf 39 = .ok (.getfield 47, 3) := by decide +kernel
theorem dX11_conflictsOf_42 : decode cX11_conflictsOf 42 = .ok (.iload_n 3, 1) := by decide +kernel
theorem dX11_conflictsOf_43 : decode cX11_conflictsOf 43 = .ok (.iaload, 1) := by decide +kernel
theorem dX11_conflictsOf_44 : decode cX11_conflictsOf 44 = .ok (.invokevirtual 230, 3) := by decide +kernel
theorem dX11_conflictsOf_47 : decode cX11_conflictsOf 47 = .ok (.iconst (-1), 1) := by decide +kernel
theorem dX11_conflictsOf_48 : decode cX11_conflictsOf 48 = .ok (.if_icmp .ne 7, 3) := by decide +kernel
theorem dX11_conflictsOf_51 : decode cX11_conflictsOf 51 = .ok (.iconst 0, 1) := by decide +kernel
theorem dX11_conflictsOf_52 : decode cX11_conflictsOf 52 = .ok (.goto 4, 3) := by decide +kernel
theorem dX11_conflictsOf_55 : decode cX11_conflictsOf 55 = .ok (.iconst 1, 1) := by decide +kernel
theorem dX11_conflictsOf_56 : decode cX11_conflictsOf 56 = .ok (.iadd, 1) := by decide +kernel
theorem dX11_conflictsOf_57 : decode cX11_conflictsOf 57 = .ok (.istore_n 2, 1) := by decide +kernel
theorem dX11_conflictsOf_58 : decode cX11_conflictsOf 58 = .ok (.iinc 3 1, 3) := by decide +kernel
theorem dX11_conflictsOf_61 : decode cX11_conflictsOf 61 = .ok (.goto (-37), 3) := by decide +kernel
theorem dX11_conflictsOf_64 : decode cX11_conflictsOf 64 = .ok (.iload_n 2, 1) := by decide +kernel
theorem dX11_conflictsOf_65 : decode cX11_conflictsOf 65 = .ok (.ireturn, 1) := by decide +kernel
set_option maxRecDepth 20000 in
theorem ggX11_allowed_X11_noNumber : GoodIn wsX11_allowed wsX11_noNumber := goodIn_r _ [7, 2, 8, 9, 6, 10, 11, 12, 13, 14, 1, 31, 32, 33, 34, 35, 36, 37, 38, 39, 40, 41, 42, 43, 44, 45, 46, 47, 48, 49, 50, 51, 52, 53, 54, 55, 56, 57, 58] (by decide +kernel) (by decide +kernel)
set_option maxRecDepth 20000 in
theorem gX11_allowed_X11_noNumber : GoodIn wsX11_allowed (wsV RX11 261 RX11 yX11_noNumber wsX11_noNumber) := goodIn_app (goodIn_of _ (by decide +kernel)) ggX11_allowed_X11_noNumber
set_option maxRecDepth 20000 in
theorem ggX11_allowed_X11_isAllowed : GoodIn wsX11_allowed wsX11_isAllowed := goodIn_r _ [18, 2, 19, 20, 21, 22, 23, 6, 24, 25, 26, 27, 28, 29, 30, 31, 32, 33, 34, 35, 36, 37, 38, 39, 40, 41, 42, 43, 44, 45, 46, 47, 48, 49, 50, 51, 52, 53, 54, 55, 56, 57, 58] (by decide +kernel) (by decide +kernel)
set_option maxRecDepth 20000 in
theorem gX11_allowed_X11_isAllowed : GoodIn wsX11_allowed (wsV RX11 248 RX11 yX11_isAllowed wsX11_isAllowed) := goodIn_app (goodIn_of _ (by decide +kernel)) ggX11_allowed_X11_isAllowed
theorem dX11_allowed_0 : decode cX11_allowed 0 = .ok (.aload_n 0, 1) := by decide +kernel
theorem dX11_allowed_1 : decode cX11_allowed 1 = .ok (.iconst 0, 1) := by decide +kernel
theorem dX11_allowed_2 : decode cX11_allowed 2 = .ok (.putfield 57, 3) := by decide +kernel
theorem dX11_allowed_5 : decode cX11_allowed 5 = .ok (.aload_n 0, 1) := by decide +kernel
theorem dX11_allowed_6 : decode cX11_allowed 6 = .ok (.iload_n 1, 1) := by decide +kernel
theorem dX11_allowed_7 : decode cX11_allowed 7 = .ok (.invokevirtual 261, 3) := by decide +kernel
theorem dX11_allowed_10 : decode cX11_allowed 10 = .ok (.ifCond .eq 5, 3) := by decide +kernel
theorem dX11_allowed_13 : decode cX11_allowed 13 = .ok (.iconst 0, 1) := by decide +kernel
theorem dX11_allowed_14 : decode cX11_allowed 14 = .ok (.ireturn, 1) := by decide +kernel
theorem dX11_allowed_15 : decode cX11_allowed 15 = .ok (.iconst 0, 1) := by decide +kernel
theorem dX11_allowed_16 : decode cX11_allowed 16 = .ok (.istore_n 2, 1) := by decide +kernel
theorem dX11_allowed_17 : decode cX11_allowed 17 = .ok (.iconst 0, 1) := by decide +kernel
theorem dX11_allowed_18 : decode cX11_allowed 18 = .ok (.istore_n 3, 1) := by decide +kernel
theorem dX11_allowed_19 : decode cX11_allowed 19 = .ok (.iload_n 3, 1) := by decide +kernel
theorem dX11_allowed_20 : decode cX11_allowed 20 = .ok (.aload_n 0, 1) := by decide +kernel
theorem dX11_allowed_21 : decode cX11_allowed 21 = .ok (.getfield 17, 3) := by decide +kernel
theorem dX11_allowed_24 : decode cX11_allowed 24 = .ok (.iconst 1, 1) := by decide +kernel
theorem dX11_allowed_25 : decode cX11_allowed 25 = .ok (.iaload, 1) := by decide +kernel
theorem dX11_allowed_26 : decode cX11_allowed 26 = .ok (.if_icmp .ge 28, 3) := by decide +kernel
theorem dX11_allowed_29 : decode cX11_allowed 29 = .ok (.iload_n 2, 1) := by decide +kernel
theorem dX11_allowed_30 : decode cX11_allowed 30 = .ok (.aload_n 0, 1) := by decide +kernel
theorem dX11_allowed_31 : decode cX11_allowed 31 = .ok (.iload_n 1, 1) := by decide +kernel
theorem dX11_allowed_32 : decode cX11_allowed 32 = .ok (.iload_n 3, 1) := by decide +kernel
theorem dX11_allowed_33 : decode cX11_allowed 33 = .ok (.invokevirtual 248, 3) := by decide +kernel
theorem dX11_allowed_36 : decode cX11_allowed 36 = .ok (.ifCond .eq 9, 3) := by decide +kernel
theorem dX11_allowed_39 : decode cX11_allowed 39 = .ok (.iconst 1, 1) := by decide +kernel
theorem dX11_allowed_40 : decode cX11_allowed 40 = .ok (.iload_n 3, 1) := by decide +kernel
theorem dX11_allowed_41 : decode cX11_allowed 41 = .ok (.ishl, 1) := by decide +kernel
theorem dX11_allowed_42 : decode cX11_allowed 42 = .ok (.goto 4, 3) := by decide +kernel
theorem dX11_allowed_45 : decode cX11_allowed 45 = .ok (.iconst 0, 1) := by decide +kernel
theorem dX11_allowed_46 : decode cX11_allowed 46 = .ok (.ior, 1) := by decide +kernel
theorem dX11_allowed_47 : decode cX11_allowed 47 = .ok (.istore_n 2, 1) := by decide +kernel
theorem dX11_allowed_48 : decode cX11_allowed 48 = .ok (.iinc 3 1, 3) := by decide +kernel
theorem dX11_allowed_51 : decode cX11_allowed 51 = .ok (.goto (-32), 3) := by decide +kernel
theorem dX11_allowed_54 : decode cX11_allowed 54 = .ok (.iload_n 2, 1) := by decide +kernel
theorem dX11_allowed_55 : decode cX11_allowed 55 = .ok (.ireturn, 1) := by decide +kernel
set_option maxRecDepth 20000 in
theorem ggX11_noSearch_X11_noNumber : GoodIn wsX11_noSearch wsX11_noNumber := goodIn_r _ [5, 6, 7, 8, 4, 9, 10, 11, 12, 13, 14, 15, 16, 17, 18, 19, 20, 21, 22, 23, 24, 25, 26, 27, 28, 29, 30, 31, 32, 33, 34, 35, 36, 37, 38, 39, 40, 41, 42] (by decide +kernel) (by decide +kernel)
set_option maxRecDepth 20000 in
theorem gX11_noSearch_X11_noNumber : GoodIn wsX11_noSearch (wsV RX11 261 RX11 yX11_noNumber wsX11_noNumber) := goodIn_app (goodIn_of _ (by decide +kernel)) ggX11_noSearch_X11_noNumber
set_option maxRecDepth 20000 in
theorem ggX11_noSearch_X11_in : GoodIn wsX11_noSearch wsX11_in := goodIn_r _ [9] (by decide +kernel) (by decide +kernel)
set_option maxRecDepth 20000 in
theorem gX11_noSearch_X11_in : GoodIn wsX11_noSearch (va_wsS RX11 79 yX11_in wsX11_in) := goodIn_app (goodIn_of _ (by decide +kernel)) ggX11_noSearch_X11_in
set_option maxRecDepth 20000 in
theorem ggX11_noSearch_X11_fails : GoodIn wsX11_noSearch wsX11_fails := goodIn_r _ [13, 14, 15, 16, 17, 18, 19, 20, 21, 22, 23, 24, 25, 26, 27, 28, 29, 30, 31, 32, 33, 34, 35, 36, 37, 38, 39, 40, 41, 42] (by decide +kernel) (by decide +kernel)
set_option maxRecDepth 20000 in
theorem gX11_noSearch_X11_fails : GoodIn wsX11_noSearch (wsV RX11 170 RX11 yX11_fails wsX11_fails) := goodIn_app (goodIn_of _ (by decide +kernel)) ggX11_noSearch_X11_fails
theorem dX11_noSearch_0 : decode cX11_noSearch 0 = .ok (.aload_n 0, 1) := by decide +kernel
theorem dX11_noSearch_1 : decode cX11_noSearch 1 = .ok (.iload_n 1, 1) := by decide +kernel
theorem dX11_noSearch_2 : decode cX11_noSearch 2 = .ok (.invokevirtual 261, 3) := by decide +kernel
theorem dX11_noSearch_5 : decode cX11_noSearch 5 = .ok (.ifCond .ne 27, 3) := by decide +kernel
theorem dX11_noSearch_8 : decode cX11_noSearch 8 = .ok (.aload_n 0, 1) := by decide +kernel
theorem dX11_noSearch_9 : decode cX11_noSearch 9 = .ok (.iload_n 2, 1) := by decide +kernel
theorem dX11_noSearch_10 : decode cX11_noSearch 10 = .ok (.iconst 1, 1) := by decide +kernel
theorem dX11_noSearch_11 : decode cX11_noSearch 11 = .ok (.sipush 3000, 3) := by decide +kernel
theorem dX11_noSearch_14 : decode cX11_noSearch 14 = .ok (.invokestatic 79, 3) := by decide +kernel
theorem dX11_noSearch_17 : decode cX11_noSearch 17 = .ok (.ifCond .ne 7, 3) := by decide +kernel
theorem dX11_noSearch_20 : decode cX11_noSearch 20 = .ok (.iconst 1, 1) := by decide +kernel
theorem dX11_noSearch_21 : decode cX11_noSearch 21 = .ok (.goto 4, 3) := by decide +kernel
theorem dX11_noSearch_24 : decode cX11_noSearch 24 = .ok (.iconst 0, 1) := by decide +kernel
theorem dX11_noSearch_25 : decode cX11_noSearch 25 = .ok (.iconst 2, 1) := by decide +kernel
theorem dX11_noSearch_26 : decode cX11_noSearch 26 = .ok (.invokevirtual 170, 3) := by decide +kernel
theorem dX11_noSearch_29 : decode cX11_noSearch 29 = .ok (.ifCond .eq 7, 3) := by decide +kernel
theorem dX11_noSearch_32 : decode cX11_noSearch 32 = .ok (.iconst 1, 1) := by decide +kernel
theorem dX11_noSearch_33 : decode cX11_noSearch 33 = .ok (.goto 4, 3) := by decide +kernel
theorem dX11_noSearch_36 : decode cX11_noSearch 36 = .ok (.iconst 0, 1) := by decide +kernel
theorem dX11_noSearch_37 : decode cX11_noSearch 37 = .ok (.ireturn, 1) := by decide +kernel
set_option maxRecDepth 20000 in
theorem ggX11_canExtend_X11_noSearch : GoodIn wsX11_canExtend wsX11_noSearch := goodIn_r _ [8, 9, 10, 11, 7, 12, 2, 13, 14, 15, 16, 17, 18, 19, 1, 57, 58, 59, 60, 61, 62, 63, 64, 65, 66, 67, 68, 69, 70, 71, 72, 73, 74, 75, 76, 77, 78, 79, 80, 81, 82, 83, 84] (by decide +kernel) (by decide +kernel)
set_option maxRecDepth 20000 in
theorem gX11_canExtend_X11_noSearch : GoodIn wsX11_canExtend (wsV RX11 273 RX11 yX11_noSearch wsX11_noSearch) := goodIn_app (goodIn_of _ (by decide +kernel)) ggX11_canExtend_X11_noSearch
set_option maxRecDepth 20000 in
theorem ggX11_canExtend_X11_copy : GoodIn wsX11_canExtend wsX11_copy := goodIn_r _ [22] (by decide +kernel) (by decide +kernel)
set_option maxRecDepth 20000 in
theorem gX11_canExtend_X11_copy : GoodIn wsX11_canExtend (va_wsS RX11 182 yX11_copy wsX11_copy) := goodIn_app (goodIn_of _ (by decide +kernel)) ggX11_canExtend_X11_copy
set_option maxRecDepth 20000 in
theorem ggX11_canExtend_X11_search : GoodIn wsX11_canExtend wsX11_search := goodIn_r _ [26, 27, 28, 29, 2, 30, 31, 32, 7, 33, 34, 35, 36, 37, 38, 39, 40, 41, 42, 43, 44, 45, 46, 47, 48, 49, 50, 51, 52, 53, 54, 55, 56, 57, 58, 59, 60, 61, 62, 63, 64, 65, 66, 67, 68, 69, 70, 71, 72, 73, 74, 75, 76, 77, 78, 79, 80, 81, 82, 83, 84] (by decide +kernel) (by decide +kernel)
set_option maxRecDepth 20000 in
theorem gX11_canExtend_X11_search : GoodIn wsX11_canExtend (wsV RX11 276 RX11 yX11_search wsX11_search) := goodIn_app (goodIn_of _ (by decide +kernel)) ggX11_canExtend_X11_search
theorem dX11_canExtend_0 : decode cX11_canExtend 0 = .ok (.aload_n 0, 1) := by decide +kernel
theorem dX11_canExtend_1 : decode cX11_canExtend 1 = .ok (.iconst 0, 1) := by decide +kernel
theorem dX11_canExtend_2 : decode cX11_canExtend 2 = .ok (.putfield 57, 3) := by decide +kernel
theorem dX11_canExtend_5 : decode cX11_canExtend 5 = .ok (.aload_n 0, 1) := by decide +kernel
theorem dX11_canExtend_6 : decode cX11_canExtend 6 = .ok (.iload_n 1, 1) := by decide +kernel
theorem dX11_canExtend_7 : decode cX11_canExtend 7 = .ok (.iload_n 2, 1) := by decide +kernel
theorem dX11_canExtend_8 : decode cX11_canExtend 8 = .ok (.invokevirtual 273, 3) := by decide +kernel
theorem dX11_canExtend_11 : decode cX11_canExtend 11 = .ok (.ifCond .eq 5, 3) := by decide +kernel
theorem dX11_canExtend_14 : decode cX11_canExtend 14 = .ok (.iconst 0, 1) := by decide +kernel
theorem dX11_canExtend_15 : decode cX11_canExtend 15 = .ok (.ireturn, 1) := by decide +kernel
theorem dX11_canExtend_16 : decode cX11_canExtend 16 = .ok (.aload_n 0, 1) := by decide +kernel
theorem dX11_canExtend_17 : decode cX11_canExtend 17 = .ok (.getfield 17, 3) := by decide +kernel
theorem dX11_canExtend_20 : decode cX11_canExtend 20 = .ok (.aload_n 0, 1) := by decide +kernel
theorem dX11_canExtend_21 : decode cX11_canExtend 21 = .ok (.getfield 23, 3) := by decide +kernel
theorem dX11_canExtend_24 : decode cX11_canExtend 24 = .ok (.invokestatic 182, 3) := by decide +kernel
theorem dX11_canExtend_27 : decode cX11_canExtend 27 = .ok (.aload_n 0, 1) := by decide +kernel
theorem dX11_canExtend_28 : decode cX11_canExtend 28 = .ok (.iload_n 1, 1) := by decide +kernel
theorem dX11_canExtend_29 : decode cX11_canExtend 29 = .ok (.iload_n 2, 1) := by decide +kernel
theorem dX11_canExtend_30 : decode cX11_canExtend 30 = .ok (.invokevirtual 276, 3) := by decide +kernel
theorem dX11_canExtend_33 : decode cX11_canExtend 33 = .ok (.istore_n 3, 1) := by decide +kernel
theorem dX11_canExtend_34 : decode cX11_canExtend 34 = .ok (.aload_n 0, 1) := by decide +kernel
theorem dX11_canExtend_35 : decode cX11_canExtend 35 = .ok (.getfield 23, 3) := by decide +kernel
theorem dX11_canExtend_38 : decode cX11_canExtend 38 = .ok (.aload_n 0, 1) := by decide +kernel
theorem dX11_canExtend_39 : decode cX11_canExtend 39 = .ok (.getfield 17, 3) := by decide +kernel
theorem dX11_canExtend_42 : decode cX11_canExtend 42 = .ok (.invokestatic 182, 3) := by decide +kernel
theorem dX11_canExtend_45 : decode cX11_canExtend 45 = .ok (.iload_n 3, 1) := by decide +kernel
theorem dX11_canExtend_46 : decode cX11_canExtend 46 = .ok (.ireturn, 1) := by decide +kernel
set_option maxRecDepth 20000 in
theorem ggX11_longest_X11_in : GoodIn wsX11_longest wsX11_in := goodIn_r _ [8] (by decide +kernel) (by decide +kernel)
set_option maxRecDepth 20000 in
theorem gX11_longest_X11_in : GoodIn wsX11_longest (va_wsS RX11 79 yX11_in wsX11_in) := goodIn_app (goodIn_of _ (by decide +kernel)) ggX11_longest_X11_in
set_option maxRecDepth 20000 in
theorem ggX11_longest_X11_fails : GoodIn wsX11_longest wsX11_fails := goodIn_r _ [12, 1, 49, 50, 51, 52, 53, 54, 55, 56, 57, 58, 59, 60, 61, 62, 63, 64, 65, 66, 67, 68, 69, 70, 71, 72, 73, 74, 75, 76] (by decide +kernel) (by decide +kernel)
set_option maxRecDepth 20000 in
theorem gX11_longest_X11_fails : GoodIn wsX11_longest (wsV RX11 170 RX11 yX11_fails wsX11_fails) := goodIn_app (goodIn_of _ (by decide +kernel)) ggX11_longest_X11_fails
set_option maxRecDepth 20000 in
theorem ggX11_longest_X11_copy : GoodIn wsX11_longest wsX11_copy := goodIn_r _ [15] (by decide +kernel) (by decide +kernel)
set_option maxRecDepth 20000 in
theorem gX11_longest_X11_copy : GoodIn wsX11_longest (va_wsS RX11 182 yX11_copy wsX11_copy) := goodIn_app (goodIn_of _ (by decide +kernel)) ggX11_longest_X11_copy
set_option maxRecDepth 20000 in
theorem ggX11_longest_X11_search : GoodIn wsX11_longest wsX11_search := goodIn_r _ [19, 20, 21, 4, 2, 22, 23, 24, 7, 25, 26, 27, 28, 29, 30, 31, 32, 33, 34, 35, 36, 37, 38, 39, 40, 41, 42, 43, 44, 45, 46, 47, 48, 49, 50, 51, 52, 53, 54, 55, 56, 57, 58, 59, 60, 61, 62, 63, 64, 65, 66, 67, 68, 69, 70, 71, 72, 73, 74, 75, 76] (by decide +kernel) (by decide +kernel)
set_option maxRecDepth 20000 in
theorem gX11_longest_X11_search : GoodIn wsX11_longest (wsV RX11 276 RX11 yX11_search wsX11_search) := goodIn_app (goodIn_of _ (by decide +kernel)) ggX11_longest_X11_search
theorem dX11_longest_0 : decode cX11_longest 0 = .ok (.aload_n 0, 1) := by decide +kernel
theorem dX11_longest_1 : decode cX11_longest 1 = .ok (.iconst 0, 1) := by decide +kernel
theorem dX11_longest_2 : decode cX11_longest 2 = .ok (.putfield 57, 3) := by decide +kernel
theorem dX11_longest_5 : decode cX11_longest 5 = .ok (.aload_n 0, 1) := by decide +kernel
theorem dX11_longest_6 : decode cX11_longest 6 = .ok (.iload_n 1, 1) := by decide +kernel
theorem dX11_longest_7 : decode cX11_longest 7 = .ok (.iconst 1, 1) := by decide +kernel
theorem dX11_longest_8 : decode cX11_longest 8 = .ok (.sipush 3000, 3) := by decide +kernel
theorem dX11_longest_11 : decode cX11_longest 11 = .ok (.invokestatic 79, 3) := by decide +kernel
theorem dX11_longest_14 : decode cX11_longest 14 = .ok (.ifCond .ne 7, 3) := by decide +kernel
theorem dX11_longest_17 : decode cX11_longest 17 = .ok (.iconst 1, 1) := by decide +kernel
theorem dX11_longest_18 : decode cX11_longest 18 = .ok (.goto 4, 3) := by decide +kernel
theorem dX11_longest_21 : decode cX11_longest 21 = .ok (.iconst 0, 1) := by decide +kernel
theorem dX11_longest_22 : decode cX11_longest 22 = .ok (.iconst 1, 1) := by decide +kernel
theorem dX11_longest_23 : decode cX11_longest 23 = .ok (.invokevirtual 170, 3) := by decide +kernel
theorem dX11_longest_26 : decode cX11_longest 26 = .ok (.ifCond .ne 12, 3) := by decide +kernel
theorem dX11_longest_29 : decode cX11_longest 29 = .ok (.aload_n 0, 1) := by decide +kernel
theorem dX11_longest_30 : decode cX11_longest 30 = .ok (.getfield 17, 3) := by decide +kernel
theorem dX11_longest_33 : decode cX11_longest 33 = .ok (.iconst 0, 1) := by decide +kernel
theorem dX11_longest_34 : decode cX11_longest 34 = .ok (.iaload, 1) := by decide +kernel
theorem dX11_longest_35 : decode cX11_longest 35 = .ok (.ifCond .ne 5, 3) := by decide +kernel
theorem dX11_longest_38 : decode cX11_longest 38 = .ok (.iconst 0, 1) := by decide +kernel
theorem dX11_longest_39 : decode cX11_longest 39 = .ok (.ireturn, 1) := by decide +kernel
theorem dX11_longest_40 : decode cX11_longest 40 = .ok (.aload_n 0, 1) := by decide +kernel
theorem dX11_longest_41 : decode cX11_longest 41 = .ok (.getfield 17, 3) := by decide +kernel
theorem dX11_longest_44 : decode cX11_longest 44 = .ok (.aload_n 0, 1) := by decide +kernel
theorem dX11_longest_45 : decode cX11_longest 45 = .ok (.getfield 23, 3) := by decide +kernel
theorem dX11_longest_48 : decode cX11_longest 48 = .ok (.invokestatic 182, 3) := by decide +kernel
theorem dX11_longest_51 : decode cX11_longest 51 = .ok (.iconst 1, 1) := by decide +kernel
theorem dX11_longest_52 : decode cX11_longest 52 = .ok (.istore_n 2, 1) := by decide +kernel
theorem dX11_longest_53 : decode cX11_longest 53 = .ok (.iload_n 2, 1) := by decide +kernel
theorem dX11_longest_54 : decode cX11_longest 54 = .ok (.aload_n 0, 1) := by decide +kernel
theorem dX11_longest_55 : decode cX11_longest 55 = .ok (.getfield 17, 3) := by decide +kernel
theorem dX11_longest_58 : decode cX11_longest 58 = .ok (.iconst 0, 1) := by decide +kernel
theorem dX11_longest_59 : decode cX11_longest 59 = .ok (.iaload, 1) := by decide +kernel
theorem dX11_longest_60 : decode cX11_longest 60 = .ok (.if_icmp .gt 19, 3) := by decide +kernel
theorem dX11_longest_63 : decode cX11_longest 63 = .ok (.aload_n 0, 1) := by decide +kernel
theorem dX11_longest_64 : decode cX11_longest 64 = .ok (.getfield 17, 3) := by decide +kernel
theorem dX11_longest_67 : decode cX11_longest 67 = .ok (.bipush 29, 2) := by decide +kernel
theorem dX11_longest_69 : decode cX11_longest 69 = .ok (.iload_n 2, 1) := by decide +kernel
theorem dX11_longest_70 : decode cX11_longest 70 = .ok (.iadd, 1) := by decide +kernel
theorem dX11_longest_71 : decode cX11_longest 71 = .ok (.iconst 0, 1) := by decide +kernel
theorem dX11_longest_72 : decode cX11_longest 72 = .ok (.iastore, 1) := by decide +kernel
theorem dX11_longest_73 : decode cX11_longest 73 = .ok (.iinc 2 1, 3) := by decide +kernel
theorem dX11_longest_76 : decode cX11_longest 76 = .ok (.goto (-23), 3) := by decide +kernel
theorem dX11_longest_79 : decode cX11_longest 79 = .ok (.aload_n 0, 1) := by decide +kernel
theorem dX11_longest_80 : decode cX11_longest 80 = .ok (.aload_n 0, 1) := by decide +kernel
theorem dX11_longest_81 : decode cX11_longest 81 = .ok (.getfield 17, 3) := by decide +kernel
theorem dX11_longest_84 : decode cX11_longest 84 = .ok (.iconst 0, 1) := by decide +kernel
theorem dX11_longest_85 : decode cX11_longest 85 = .ok (.iaload, 1) := by decide +kernel
theorem dX11_longest_86 : decode cX11_longest 86 = .ok (.iload_n 1, 1) := by decide +kernel
theorem dX11_longest_87 : decode cX11_longest 87 = .ok (.invokevirtual 276, 3) := by decide +kernel
theorem dX11_longest_90 : decode cX11_longest 90 = .ok (.istore_n 2, 1) := by decide +kernel
theorem dX11_longest_91 : decode cX11_longest 91 = .ok (.aload_n 0, 1) := by decide +kernel
theorem dX11_longest_92 : decode cX11_longest 92 = .ok (.getfield 23, 3) := by decide +kernel
theorem dX11_longest_95 : decode cX11_longest 95 = .ok (.aload_n 0, 1) := by decide +kernel
theorem dX11_longest_96 : decode cX11_longest 96 = .ok (.getfield 17, 3) := by decide +kernel
theorem dX11_longest_99 : decode cX11_longest 99 = .ok (.invokestatic 182, 3) := by decide +kernel
theorem dX11_longest_102 : decode cX11_longest 102 = .ok (.iload_n 2, 1) := by decide +kernel
theorem dX11_longest_103 : decode cX11_longest 103 = .ok (.ifCond .le 12, 3) := by decide +kernel
theorem dX11_longest_106 : decode cX11_longest 106 = .ok (.aload_n 0, 1) := by decide +kernel
theorem dX11_longest_107 : decode cX11_longest 107 = .ok (.getfield 17, 3) := by decide +kernel
theorem dX11_longest_110 : decode cX11_longest 110 = .ok (.iconst 0, 1) := by decide +kernel
theorem dX11_longest_111 : decode cX11_longest 111 = .ok (.iaload, 1) := by decide +kernel
theorem dX11_longest_112 : decode cX11_longest 112 = .ok (.goto 7, 3) := by decide +kernel
theorem dX11_longest_115 : decode cX11_longest 115 = .ok (.aload_n 0, 1) := by decide +kernel
theorem dX11_longest_116 : decode cX11_longest 116 = .ok (.getfield 242, 3) := by decide +kernel
theorem dX11_longest_119 : decode cX11_longest 119 = .ok (.ireturn, 1) := by decide +kernel
set_option maxRecDepth 20000 in
theorem ggX11_bestGain_X11_findStep : GoodIn wsX11_bestGain wsX11_findStep := goodIn_r _ [6, 7, 8, 9, 10, 11, 12, 13, 5, 14, 15, 16, 17, 18, 19, 20, 21, 22, 23, 24, 25, 26, 27, 28, 29, 30, 31, 32, 33, 34, 35, 36, 37, 38, 39, 40, 41, 42, 43, 44, 45, 46, 47, 48, 49, 50, 51, 52, 53, 54, 55, 56, 57, 58, 59, 60, 61, 62, 63, 64, 65, 66, 67, 68, 69, 70, 71, 72, 73, 74, 75, 76, 77, 78, 79] (by decide +kernel) (by decide +kernel)
set_option maxRecDepth 20000 in
theorem gX11_bestGain_X11_findStep : GoodIn wsX11_bestGain (wsV RX11 279 RX11 yX11_findStep wsX11_findStep) := goodIn_app (goodIn_of _ (by decide +kernel)) ggX11_bestGain_X11_findStep
theorem dX11_bestGain_0 : decode cX11_bestGain 0 = .ok (.aload_n 0, 1) := by decide +kernel
theorem dX11_bestGain_1 : decode cX11_bestGain 1 = .ok (.iconst 0, 1) := by decide +kernel
theorem dX11_bestGain_2 : decode cX11_bestGain 2 = .ok (.putfield 57, 3) := by decide +kernel
theorem dX11_bestGain_5 : decode cX11_bestGain 5 = .ok (.aload_n 0, 1) := by decide +kernel
theorem dX11_bestGain_6 : decode cX11_bestGain 6 = .ok (.invokevirtual 279, 3) := by decide +kernel
theorem dX11_bestGain_9 : decode cX11_bestGain 9 = .ok (.ireturn, 1) := by decide +kernel
set_option maxRecDepth 20000 in
theorem ggX11_remember_X11_copy : GoodIn wsX11_remember wsX11_copy := goodIn_r _ [7] (by decide +kernel) (by decide +kernel)
set_option maxRecDepth 20000 in
theorem gX11_remember_X11_copy : GoodIn wsX11_remember (va_wsS RX11 182 yX11_copy wsX11_copy) := goodIn_app (goodIn_of _ (by decide +kernel)) ggX11_remember_X11_copy
theorem dX11_remember_0 : decode cX11_remember 0 = .ok (.aload_n 0, 1) := by decide +kernel
theorem dX11_remember_1 : decode cX11_remember 1 = .ok (.getfield 282, 3) := by decide +kernel
theorem dX11_remember_4 : decode cX11_remember 4 = .ok (.bipush 8, 2) := by decide +kernel
theorem dX11_remember_6 : decode cX11_remember 6 = .ok (.if_icmp .ne 44, 3) := by decide +kernel
theorem dX11_remember_9 : decode cX11_remember 9 = .ok (.iconst 1, 1) := by decide +kernel
theorem dX11_remember_10 : decode cX11_remember 10 = .ok (.istore_n 1, 1) := by decide +kernel
theorem dX11_remember_11 : decode cX11_remember 11 = .ok (.iload_n 1, 1) := by decide +kernel
theorem dX11_remember_12 : decode cX11_remember 12 = .ok (.bipush 8, 2) := by decide +kernel
theorem dX11_remember_14 : decode cX11_remember 14 = .ok (.if_icmp .ge 26, 3) := by decide +kernel
theorem dX11_remember_17 : decode cX11_remember 17 = .ok (.aload_n 0, 1) := by decide +kernel
theorem dX11_remember_18 : decode cX11_remember 18 = .ok (.getfield 28, 3) := by decide +kernel
theorem dX11_remember_21 : decode cX11_remember 21 = .ok (.iload_n 1, 1) := by decide +kernel
theorem dX11_remember_22 : decode cX11_remember 22 = .ok (.aaload, 1) := by decide +kernel
theorem dX11_remember_23 : decode cX11_remember 23 = .ok (.aload_n 0, 1) := by decide +kernel
theorem dX11_remember_24 : decode cX11_remember 24 = .ok (.getfield 28, 3) := by decide +kernel
theorem dX11_remember_27 : decode cX11_remember 27 = .ok (.iload_n 1, 1) := by decide +kernel
theorem dX11_remember_28 : decode cX11_remember 28 = .ok (.iconst 1, 1) := by decide +kernel
theorem dX11_remember_29 : decode cX11_remember 29 = .ok (.isub, 1) := by decide +kernel
theorem dX11_remember_30 : decode cX11_remember 30 = .ok (.aaload, 1) := by decide +kernel
theorem dX11_remember_31 : decode cX11_remember 31 = .ok (.invokestatic 182, 3) := by decide +kernel
theorem dX11_remember_34 : decode cX11_remember 34 = .ok (.iinc 1 1, 3) := by decide +kernel
theorem dX11_remember_37 : decode cX11_remember 37 = .ok (.goto (-26), 3) := by decide +kernel
theorem dX11_remember_40 : decode cX11_remember 40 = .ok (.aload_n 0, 1) := by decide +kernel
theorem dX11_remember_41 : decode cX11_remember 41 = .ok (.dup, 1) := by decide +kernel
theorem dX11_remember_42 : decode cX11_remember 42 = .ok (.getfield 282, 3) := by decide +kernel
theorem dX11_remember_45 : decode cX11_remember 45 = .ok (.iconst 1, 1) := by decide +kernel
theorem dX11_remember_46 : decode cX11_remember 46 = .ok (.isub, 1) := by decide +kernel
theorem dX11_remember_47 : decode cX11_remember 47 = .ok (.putfield 282, 3) := by decide +kernel
theorem dX11_remember_50 : decode cX11_remember 50 = .ok (.aload_n 0, 1) := by decide +kernel
theorem dX11_remember_51 : decode cX11_remember 51 = .ok (.getfield 17, 3) := by decide +kernel
theorem dX11_remember_54 : decode cX11_remember 54 = .ok (.aload_n 0, 1) := by decide +kernel
theorem dX11_remember_55 : decode cX11_remember 55 = .ok (.getfield 28, 3) := by decide +kernel
theorem dX11_remember_58 : decode cX11_remember 58 = .ok (.aload_n 0, 1) := by decide +kernel
theorem dX11_remember_59 : decode cX11_remember 59 = .ok (.getfield 282, 3) := by decide +kernel
theorem dX11_remember_62 : decode cX11_remember 62 = .ok (.aaload, 1) := by decide +kernel
theorem dX11_remember_63 : decode cX11_remember 63 = .ok (.invokestatic 182, 3) := by decide +kernel
theorem dX11_remember_66 : decode cX11_remember 66 = .ok (.aload_n 0, 1) := by decide +kernel
theorem dX11_remember_67 : decode cX11_remember 67 = .ok (.dup, 1) := by decide +kernel
theorem dX11_remember_68 : decode cX11_remember 68 = .ok (.getfield 282, 3) := by decide +kernel
theorem dX11_remember_71 : decode cX11_remember 71 = .ok (.iconst 1, 1) := by decide +kernel
theorem dX11_remember_72 : decode cX11_remember 72 = .ok (.iadd, 1) := by decide +kernel
theorem dX11_remember_73 : decode cX11_remember 73 = .ok (.putfield 282, 3) := by decide +kernel
theorem dX11_remember_76 : decode cX11_remember 76 = .ok (.return_, 1) := by decide +kernel
set_option maxRecDepth 20000 in
theorem ggX11_setColour_X11_noNumber : GoodIn wsX11_setColour wsX11_noNumber := goodIn_r _ [7, 2, 8, 9, 6, 10, 11, 12, 13, 14, 1, 32, 33, 34, 35, 36, 37, 38, 39, 40, 41, 42, 43, 44, 45, 46, 47, 48, 49, 50, 51, 52, 53, 54, 55, 56, 57, 58, 59] (by decide +kernel) (by decide +kernel)
set_option maxRecDepth 20000 in
theorem gX11_setColour_X11_noNumber : GoodIn wsX11_setColour (wsV RX11 261 RX11 yX11_noNumber wsX11_noNumber) := goodIn_app (goodIn_of _ (by decide +kernel)) ggX11_setColour_X11_noNumber
set_option maxRecDepth 20000 in
theorem ggX11_setColour_X11_noColour : GoodIn wsX11_setColour wsX11_noColour := goodIn_r _ [18, 2, 8, 9, 6, 10, 11, 12, 13, 14, 1, 32, 33, 34, 35, 36, 37, 38, 39, 40, 41, 42, 43, 44, 45, 46, 47, 48, 49, 50, 51, 52, 53, 54, 55, 56, 57, 58, 59] (by decide +kernel) (by decide +kernel)
set_option maxRecDepth 20000 in
theorem gX11_setColour_X11_noColour : GoodIn wsX11_setColour (wsV RX11 264 RX11 yX11_noColour wsX11_noColour) := goodIn_app (goodIn_of _ (by decide +kernel)) ggX11_setColour_X11_noColour
set_option maxRecDepth 20000 in
theorem ggX11_setColour_X11_fails : GoodIn wsX11_setColour wsX11_fails := goodIn_r _ [14, 1, 32, 33, 34, 35, 36, 37, 38, 39, 40, 41, 42, 43, 44, 45, 46, 47, 48, 49, 50, 51, 52, 53, 54, 55, 56, 57, 58, 59] (by decide +kernel) (by decide +kernel)
set_option maxRecDepth 20000 in
theorem gX11_setColour_X11_fails : GoodIn wsX11_setColour (wsV RX11 170 RX11 yX11_fails wsX11_fails) := goodIn_app (goodIn_of _ (by decide +kernel)) ggX11_setColour_X11_fails
set_option maxRecDepth 20000 in
theorem ggX11_setColour_X11_remember : GoodIn wsX11_setColour wsX11_remember := goodIn_r _ [22, 23, 24, 2, 25, 26, 6, 27, 32, 33, 34, 35, 36, 37, 38, 39, 40, 41, 42, 43, 44, 45, 46, 47, 48, 49, 50, 51, 52, 53, 54, 55, 56, 57, 58, 59] (by decide +kernel) (by decide +kernel)
set_option maxRecDepth 20000 in
theorem gX11_setColour_X11_remember : GoodIn wsX11_setColour (wsV RX11 179 RX11 yX11_remember wsX11_remember) := goodIn_app (goodIn_of _ (by decide +kernel)) ggX11_setColour_X11_remember
set_option maxRecDepth 20000 in
theorem ggX11_setColour_X11_colourOf : GoodIn wsX11_setColour wsX11_colourOf := goodIn_r _ [31, 2, 32, 33, 34, 35, 36, 37, 38, 39, 40, 41, 42, 43, 44, 45, 46, 47, 48, 49, 50, 51, 52, 53, 54, 55, 56, 57, 58, 59] (by decide +kernel) (by decide +kernel)
set_option maxRecDepth 20000 in
theorem gX11_setColour_X11_colourOf : GoodIn wsX11_setColour (wsV RX11 206 RX11 yX11_colourOf wsX11_colourOf) := goodIn_app (goodIn_of _ (by decide +kernel)) ggX11_setColour_X11_colourOf
theorem dX11_setColour_0 : decode cX11_setColour 0 = .ok (.aload_n 0, 1) := by decide +kernel
theorem dX11_setColour_1 : decode cX11_setColour 1 = .ok (.iconst 0, 1) := by decide +kernel
theorem dX11_setColour_2 : decode cX11_setColour 2 = .ok (.putfield 57, 3) := by decide +kernel
theorem dX11_setColour_5 : decode cX11_setColour 5 = .ok (.aload_n 0, 1) := by decide +kernel
theorem dX11_setColour_6 : decode cX11_setColour 6 = .ok (.iload_n 1, 1) := by decide +kernel
theorem dX11_setColour_7 : decode cX11_setColour 7 = .ok (.invokevirtual 261, 3) := by decide +kernel
theorem dX11_setColour_10 : decode cX11_setColour 10 = .ok (.ifCond .ne 38, 3) := by decide +kernel
theorem dX11_setColour_13 : decode cX11_setColour 13 = .ok (.aload_n 0, 1) := by decide +kernel
theorem dX11_setColour_14 : decode cX11_setColour 14 = .ok (.iload_n 2, 1) := by decide +kernel
theorem dX11_setColour_15 : decode cX11_setColour 15 = .ok (.iconst (-1), 1) := by decide +kernel
theorem dX11_setColour_16 : decode cX11_setColour 16 = .ok (.invokevirtual 264, 3) := by decide +kernel
theorem dX11_setColour_19 : decode cX11_setColour 19 = .ok (.ifCond .ne 29, 3) := by decide +kernel
theorem dX11_setColour_22 : decode cX11_setColour 22 = .ok (.aload_n 0, 1) := by decide +kernel
theorem dX11_setColour_23 : decode cX11_setColour 23 = .ok (.aload_n 0, 1) := by decide +kernel
theorem dX11_setColour_24 : decode cX11_setColour 24 = .ok (.getfield 17, 3) := by decide +kernel
theorem dX11_setColour_27 : decode cX11_setColour 27 = .ok (.bipush 70, 2) := by decide +kernel
theorem dX11_setColour_29 : decode cX11_setColour 29 = .ok (.iload_n 1, 1) := by decide +kernel
theorem dX11_setColour_30 : decode cX11_setColour 30 = .ok (.iadd, 1) := by decide +kernel
theorem dX11_setColour_31 : decode cX11_setColour 31 = .ok (.iaload, 1) := by decide +kernel
theorem dX11_setColour_32 : decode cX11_setColour 32 = .ok (.iconst 1, 1) := by decide +kernel
theorem dX11_setColour_33 : decode cX11_setColour 33 = .ok (.if_icmp .ne 7, 3) := by decide +kernel
theorem dX11_setColour_36 : decode cX11_setColour 36 = .ok (.iconst 1, 1) := by decide +kernel
theorem dX11_setColour_37 : decode cX11_setColour 37 = .ok (.goto 4, 3) := by decide +kernel
theorem dX11_setColour_40 : decode cX11_setColour 40 = .ok (.iconst 0, 1) := by decide +kernel
theorem dX11_setColour_41 : decode cX11_setColour 41 = .ok (.iconst 2, 1) := by decide +kernel
theorem dX11_setColour_42 : decode cX11_setColour 42 = .ok (.invokevirtual 170, 3) := by decide +kernel
theorem dX11_setColour_45 : decode cX11_setColour 45 = .ok (.ifCond .eq 5, 3) := by decide +kernel
theorem dX11_setColour_48 : decode cX11_setColour 48 = .ok (.iconst 0, 1) := by decide +kernel
theorem dX11_setColour_49 : decode cX11_setColour 49 = .ok (.ireturn, 1) := by decide +kernel
theorem dX11_setColour_50 : decode cX11_setColour 50 = .ok (.aload_n 0, 1) := by decide +kernel
theorem dX11_setColour_51 : decode cX11_setColour 51 = .ok (.invokevirtual 179, 3) := by decide +kernel
theorem dX11_setColour_54 : decode cX11_setColour 54 = .ok (.aload_n 0, 1) := by decide +kernel
theorem dX11_setColour_55 : decode cX11_setColour 55 = .ok (.iload_n 1, 1) := by decide +kernel
theorem dX11_setColour_56 : decode cX11_setColour 56 = .ok (.invokevirtual 206, 3) := by decide +kernel
theorem dX11_setColour_59 : decode cX11_setColour 59 = .ok (.istore_n 3, 1) := by decide +kernel
theorem dX11_setColour_60 : decode cX11_setColour 60 = .ok (.aload_n 0, 1) := by decide +kernel
theorem dX11_setColour_61 : decode cX11_setColour 61 = .ok (.getfield 17, 3) := by decide +kernel
theorem dX11_setColour_64 : decode cX11_setColour 64 = .ok (.bipush 29, 2) := by decide +kernel
theorem dX11_setColour_66 : decode cX11_setColour 66 = .ok (.iload_n 1, 1) := by decide +kernel
theorem dX11_setColour_67 : decode cX11_setColour 67 = .ok (.iadd, 1) := by decide +kernel
theorem dX11_setColour_68 : decode cX11_setColour 68 = .ok (.iload_n 2, 1) := by decide +kernel
theorem dX11_setColour_69 : decode cX11_setColour 69 = .ok (.iconst 1, 1) := by decide +kernel
theorem dX11_setColour_70 : decode cX11_setColour 70 = .ok (.iadd, 1) := by decide +kernel
theorem dX11_setColour_71 : decode cX11_setColour 71 = .ok (.iastore, 1) := by decide +kernel
theorem dX11_setColour_72 : decode cX11_setColour 72 = .ok (.iload_n 3, 1) := by decide +kernel
theorem dX11_setColour_73 : decode cX11_setColour 73 = .ok (.ireturn, 1) := by decide +kernel
set_option maxRecDepth 20000 in
theorem ggX11_setFixed_X11_noNumber : GoodIn wsX11_setFixed wsX11_noNumber := goodIn_r _ [7, 2, 8, 9, 6, 10, 11, 12, 13, 14, 1, 28, 29, 30, 31, 32, 33, 34, 35, 36, 37, 38, 39, 40, 41, 42, 43, 44, 45, 46, 47, 48, 49, 50, 51, 52, 53, 54, 55] (by decide +kernel) (by decide +kernel)
set_option maxRecDepth 20000 in
theorem gX11_setFixed_X11_noNumber : GoodIn wsX11_setFixed (wsV RX11 261 RX11 yX11_noNumber wsX11_noNumber) := goodIn_app (goodIn_of _ (by decide +kernel)) ggX11_setFixed_X11_noNumber
set_option maxRecDepth 20000 in
theorem ggX11_setFixed_X11_colourOf : GoodIn wsX11_setFixed wsX11_colourOf := goodIn_r _ [18, 2, 28, 29, 30, 31, 32, 33, 34, 35, 36, 37, 38, 39, 40, 41, 42, 43, 44, 45, 46, 47, 48, 49, 50, 51, 52, 53, 54, 55] (by decide +kernel) (by decide +kernel)
set_option maxRecDepth 20000 in
theorem gX11_setFixed_X11_colourOf : GoodIn wsX11_setFixed (wsV RX11 206 RX11 yX11_colourOf wsX11_colourOf) := goodIn_app (goodIn_of _ (by decide +kernel)) ggX11_setFixed_X11_colourOf
set_option maxRecDepth 20000 in
theorem ggX11_setFixed_X11_fails : GoodIn wsX11_setFixed wsX11_fails := goodIn_r _ [14, 1, 28, 29, 30, 31, 32, 33, 34, 35, 36, 37, 38, 39, 40, 41, 42, 43, 44, 45, 46, 47, 48, 49, 50, 51, 52, 53, 54, 55] (by decide +kernel) (by decide +kernel)
set_option maxRecDepth 20000 in
theorem gX11_setFixed_X11_fails : GoodIn wsX11_setFixed (wsV RX11 170 RX11 yX11_fails wsX11_fails) := goodIn_app (goodIn_of _ (by decide +kernel)) ggX11_setFixed_X11_fails
set_option maxRecDepth 20000 in
theorem ggX11_setFixed_X11_remember : GoodIn wsX11_setFixed wsX11_remember := goodIn_r _ [22, 23, 24, 2, 25, 26, 6, 27, 28, 29, 30, 31, 32, 33, 34, 35, 36, 37, 38, 39, 40, 41, 42, 43, 44, 45, 46, 47, 48, 49, 50, 51, 52, 53, 54, 55] (by decide +kernel) (by decide +kernel)
set_option maxRecDepth 20000 in
theorem gX11_setFixed_X11_remember : GoodIn wsX11_setFixed (wsV RX11 179 RX11 yX11_remember wsX11_remember) := goodIn_app (goodIn_of _ (by decide +kernel)) ggX11_setFixed_X11_remember
theorem dX11_setFixed_0 : decode cX11_setFixed 0 = .ok (.aload_n 0, 1) := by decide +kernel
theorem dX11_setFixed_1 : decode cX11_setFixed 1 = .ok (.iconst 0, 1) := by decide +kernel
theorem dX11_setFixed_2 : decode cX11_setFixed 2 = .ok (.putfield 57, 3) := by decide +kernel
theorem dX11_setFixed_5 : decode cX11_setFixed 5 = .ok (.aload_n 0, 1) := by decide +kernel
theorem dX11_setFixed_6 : decode cX11_setFixed 6 = .ok (.iload_n 1, 1) := by decide +kernel
theorem dX11_setFixed_7 : decode cX11_setFixed 7 = .ok (.invokevirtual 261, 3) := by decide +kernel
theorem dX11_setFixed_10 : decode cX11_setFixed 10 = .ok (.ifCond .ne 29, 3) := by decide +kernel
theorem dX11_setFixed_13 : decode cX11_setFixed 13 = .ok (.aload_n 0, 1) := by decide +kernel
theorem dX11_setFixed_14 : decode cX11_setFixed 14 = .ok (.iload_n 2, 1) := by decide +kernel
theorem dX11_setFixed_15 : decode cX11_setFixed 15 = .ok (.ifCond .eq 16, 3) := by decide +kernel
theorem dX11_setFixed_18 : decode cX11_setFixed 18 = .ok (.aload_n 0, 1) := by decide +kernel
theorem dX11_setFixed_19 : decode cX11_setFixed 19 = .ok (.iload_n 1, 1) := by decide +kernel
theorem dX11_setFixed_20 : decode cX11_setFixed 20 = .ok (.invokevirtual 206, 3) := by decide +kernel
theorem dX11_setFixed_23 : decode cX11_setFixed 23 = .ok (.iconst (-1), 1) := by decide +kernel
theorem dX11_setFixed_24 : decode cX11_setFixed 24 = .ok (.if_icmp .ne 7, 3) := by decide +kernel
theorem dX11_setFixed_27 : decode cX11_setFixed 27 = .ok (.iconst 1, 1) := by decide +kernel
theorem dX11_setFixed_28 : decode cX11_setFixed 28 = .ok (.goto 4, 3) := by decide +kernel
theorem dX11_setFixed_31 : decode cX11_setFixed 31 = .ok (.iconst 0, 1) := by decide +kernel
theorem dX11_setFixed_32 : decode cX11_setFixed 32 = .ok (.iconst 2, 1) := by decide +kernel
theorem dX11_setFixed_33 : decode cX11_setFixed 33 = .ok (.invokevirtual 170, 3) := by decide +kernel
theorem dX11_setFixed_36 : decode cX11_setFixed 36 = .ok (.ifCond .eq 5, 3) := by decide +kernel
theorem dX11_setFixed_39 : decode cX11_setFixed 39 = .ok (.iconst 0, 1) := by decide +kernel
theorem dX11_setFixed_40 : decode cX11_setFixed 40 = .ok (.ireturn, 1) := by decide +kernel
theorem dX11_setFixed_41 : decode cX11_setFixed 41 = .ok (.aload_n 0, 1) := by decide +kernel
theorem dX11_setFixed_42 : decode cX11_setFixed 42 = .ok (.invokevirtual 179, 3) := by decide +kernel
theorem dX11_setFixed_45 : decode cX11_setFixed 45 = .ok (.aload_n 0, 1) := by decide +kernel
theorem dX11_setFixed_46 : decode cX11_setFixed 46 = .ok (.getfield 17, 3) := by decide +kernel
theorem dX11_setFixed_49 : decode cX11_setFixed 49 = .ok (.bipush 70, 2) := by decide +kernel
theorem dX11_setFixed_51 : decode cX11_setFixed 51 = .ok (.iload_n 1, 1) := by decide +kernel
theorem dX11_setFixed_52 : decode cX11_setFixed 52 = .ok (.iadd, 1) := by decide +kernel
theorem dX11_setFixed_53 : decode cX11_setFixed 53 = .ok (.iaload, 1) := by decide +kernel
theorem dX11_setFixed_54 : decode cX11_setFixed 54 = .ok (.iconst 1, 1) := by decide +kernel
theorem dX11_setFixed_55 : decode cX11_setFixed 55 = .ok (.if_icmp .ne 7, 3) := by decide +kernel
theorem dX11_setFixed_58 : decode cX11_setFixed 58 = .ok (.iconst 1, 1) := by decide +kernel
theorem dX11_setFixed_59 : decode cX11_setFixed 59 = .ok (.goto 4, 3) := by decide +kernel
theorem dX11_setFixed_62 : decode cX11_setFixed 62 = .ok (.iconst 0, 1) := by decide +kernel
theorem dX11_setFixed_63 : decode cX11_setFixed 63 = .ok (.istore_n 3, 1) := by decide +kernel
theorem dX11_setFixed_64 : decode cX11_setFixed 64 = .ok (.aload_n 0, 1) := by decide +kernel
theorem dX11_setFixed_65 : decode cX11_setFixed 65 = .ok (.getfield 17, 3) := by decide +kernel
theorem dX11_setFixed_68 : decode cX11_setFixed 68 = .ok (.bipush 70, 2) := by decide +kernel
theorem dX11_setFixed_70 : decode cX11_setFixed 70 = .ok (.iload_n 1, 1) := by decide +kernel
theorem dX11_setFixed_71 : decode cX11_setFixed 71 = .ok (.iadd, 1) := by decide +kernel
theorem dX11_setFixed_72 : decode cX11_setFixed 72 = .ok (.iload_n 2, 1) := by decide +kernel
theorem dX11_setFixed_73 : decode cX11_setFixed 73 = .ok (.ifCond .eq 7, 3) := by decide +kernel
theorem dX11_setFixed_76 : decode cX11_setFixed 76 = .ok (.iconst 1, 1) := by decide +kernel
theorem dX11_setFixed_77 : decode cX11_setFixed 77 = .ok (.goto 4, 3) := by decide +kernel
theorem dX11_setFixed_80 : decode cX11_setFixed 80 = .ok (.iconst 0, 1) := by decide +kernel
theorem dX11_setFixed_81 : decode cX11_setFixed 81 = .ok (.iastore, 1) := by decide +kernel
theorem dX11_setFixed_82 : decode cX11_setFixed 82 = .ok (.iload_n 3, 1) := by decide +kernel
theorem dX11_setFixed_83 : decode cX11_setFixed 83 = .ok (.ireturn, 1) := by decide +kernel
set_option maxRecDepth 20000 in
theorem ggX11_swapColours_X11_noColour : GoodIn wsX11_swapColours wsX11_noColour := goodIn_r _ [7, 2, 8, 9, 6, 10, 11, 12, 13, 14, 1, 28, 29, 30, 31, 32, 33, 34, 35, 36, 37, 38, 39, 40, 41, 42, 43, 44, 45, 46, 47, 48, 49, 50, 51, 52, 53, 54, 55] (by decide +kernel) (by decide +kernel)
set_option maxRecDepth 20000 in
theorem gX11_swapColours_X11_noColour : GoodIn wsX11_swapColours (wsV RX11 264 RX11 yX11_noColour wsX11_noColour) := goodIn_app (goodIn_of _ (by decide +kernel)) ggX11_swapColours_X11_noColour
set_option maxRecDepth 20000 in
theorem ggX11_swapColours_X11_remember : GoodIn wsX11_swapColours wsX11_remember := goodIn_r _ [18, 19, 20, 2, 21, 22, 6, 23, 28, 29, 30, 31, 32, 33, 34, 35, 36, 37, 38, 39, 40, 41, 42, 43, 44, 45, 46, 47, 48, 49, 50, 51, 52, 53, 54, 55] (by decide +kernel) (by decide +kernel)
set_option maxRecDepth 20000 in
theorem gX11_swapColours_X11_remember : GoodIn wsX11_swapColours (wsV RX11 179 RX11 yX11_remember wsX11_remember) := goodIn_app (goodIn_of _ (by decide +kernel)) ggX11_swapColours_X11_remember
set_option maxRecDepth 20000 in
theorem ggX11_swapColours_X11_colourOf : GoodIn wsX11_swapColours wsX11_colourOf := goodIn_r _ [27, 2, 28, 29, 30, 31, 32, 33, 34, 35, 36, 37, 38, 39, 40, 41, 42, 43, 44, 45, 46, 47, 48, 49, 50, 51, 52, 53, 54, 55] (by decide +kernel) (by decide +kernel)
set_option maxRecDepth 20000 in
theorem gX11_swapColours_X11_colourOf : GoodIn wsX11_swapColours (wsV RX11 206 RX11 yX11_colourOf wsX11_colourOf) := goodIn_app (goodIn_of _ (by decide +kernel)) ggX11_swapColours_X11_colourOf
theorem dX11_swapColours_0 : decode cX11_swapColours 0 = .ok (.aload_n 0, 1) := by decide +kernel
theorem dX11_swapColours_1 : decode cX11_swapColours 1 = .ok (.iconst 0, 1) := by decide +kernel
theorem dX11_swapColours_2 : decode cX11_swapColours 2 = .ok (.putfield 57, 3) := by decide +kernel
theorem dX11_swapColours_5 : decode cX11_swapColours 5 = .ok (.aload_n 0, 1) := by decide +kernel
theorem dX11_swapColours_6 : decode cX11_swapColours 6 = .ok (.iload_n 1, 1) := by decide +kernel
theorem dX11_swapColours_7 : decode cX11_swapColours 7 = .ok (.iconst 0, 1) := by decide +kernel
theorem dX11_swapColours_8 : decode cX11_swapColours 8 = .ok (.invokevirtual 264, 3) := by decide +kernel
theorem dX11_swapColours_11 : decode cX11_swapColours 11 = .ok (.ifCond .ne 12, 3) := by decide +kernel
theorem dX11_swapColours_14 : decode cX11_swapColours 14 = .ok (.aload_n 0, 1) := by decide +kernel
theorem dX11_swapColours_15 : decode cX11_swapColours 15 = .ok (.iload_n 2, 1) := by decide +kernel
theorem dX11_swapColours_16 : decode cX11_swapColours 16 = .ok (.iconst 0, 1) := by decide +kernel
theorem dX11_swapColours_17 : decode cX11_swapColours 17 = .ok (.invokevirtual 264, 3) := by decide +kernel
theorem dX11_swapColours_20 : decode cX11_swapColours 20 = .ok (.ifCond .eq 5, 3) := by decide +kernel
theorem dX11_swapColours_23 : decode cX11_swapColours 23 = .ok (.iconst 0, 1) := by decide +kernel
theorem dX11_swapColours_24 : decode cX11_swapColours 24 = .ok (.ireturn, 1) := by decide +kernel
theorem dX11_swapColours_25 : decode cX11_swapColours 25 = .ok (.aload_n 0, 1) := by decide +kernel
theorem dX11_swapColours_26 : decode cX11_swapColours 26 = .ok (.invokevirtual 179, 3) := by decide +kernel
theorem dX11_swapColours_29 : decode cX11_swapColours 29 = .ok (.iconst 0, 1) := by decide +kernel
theorem dX11_swapColours_30 : decode cX11_swapColours 30 = .ok (.istore_n 3, 1) := by decide +kernel
theorem dX11_swapColours_31 : decode cX11_swapColours 31 = .ok (.iconst 1, 1) := by decide +kernel
theorem dX11_swapColours_32 : decode cX11_swapColours 32 = .ok (.istore 4, 2) := by decide +kernel
theorem dX11_swapColours_34 : decode cX11_swapColours 34 = .ok (.iload 4, 2) := by decide +kernel
theorem dX11_swapColours_36 : decode cX11_swapColours 36 = .ok (.aload_n 0, 1) := by decide +kernel
theorem dX11_swapColours_37 : decode cX11_swapColours 37 = .ok (.getfield 17, 3) := by decide +kernel
theorem dX11_swapColours_40 : decode cX11_swapColours 40 = .ok (.iconst 0, 1) := by decide +kernel
theorem dX11_swapColours_41 : decode cX11_swapColours 41 = .ok (.iaload, 1) := by decide +kernel
theorem dX11_swapColours_42 : decode cX11_swapColours 42 = .ok (.if_icmp .gt 70, 3) := by decide +kernel
theorem dX11_swapColours_45 : decode cX11_swapColours 45 = .ok (.aload_n 0, 1) := by decide +kernel
theorem dX11_swapColours_46 : decode cX11_swapColours 46 = .ok (.iload 4, 2) := by decide +kernel
theorem dX11_swapColours_48 : decode cX11_swapColours 48 = .ok (.invokevirtual 206, 3) := by decide +kernel
theorem dX11_swapColours_51 : decode cX11_swapColours 51 = .ok (.istore 5, 2) := by decide +kernel
theorem dX11_swapColours_53 : decode cX11_swapColours 53 = .ok (.iload 5, 2) := by decide +kernel
theorem dX11_swapColours_55 : decode cX11_swapColours 55 = .ok (.iload_n 1, 1) := by decide +kernel
theorem dX11_swapColours_56 : decode cX11_swapColours 56 = .ok (.if_icmp .ne 7, 3) := by decide +kernel
theorem dX11_swapColours_59 : decode cX11_swapColours 59 = .ok (.iload_n 2, 1) := by decide +kernel
theorem dX11_swapColours_60 : decode cX11_swapColours 60 = .ok (.goto 15, 3) := by decide +kernel
theorem dX11_swapColours_63 : decode cX11_swapColours 63 = .ok (.iload 5, 2) := by decide +kernel
theorem dX11_swapColours_65 : decode cX11_swapColours 65 = .ok (.iload_n 2, 1) := by decide +kernel
theorem dX11_swapColours_66 : decode cX11_swapColours 66 = .ok (.if_icmp .ne 7, 3) := by decide +kernel
theorem dX11_swapColours_69 : decode cX11_swapColours 69 = .ok (.iload_n 1, 1) := by decide +kernel
theorem dX11_swapColours_70 : decode cX11_swapColours 70 = .ok (.goto 5, 3) := by decide +kernel
theorem dX11_swapColours_73 : decode cX11_swapColours 73 = .ok (.iload 5, 2) := by decide +kernel
theorem dX11_swapColours_75 : decode cX11_swapColours 75 = .ok (.istore 6, 2) := by decide +kernel
theorem dX11_swapColours_77 : decode cX11_swapColours 77 = .ok (.iload_n 3, 1) := by decide +kernel
theorem dX11_swapColours_78 : decode cX11_swapColours 78 = .ok (.iload 6, 2) := by decide +kernel
theorem dX11_swapColours_80 : decode cX11_swapColours 80 = .ok (.iload 5, 2) := by decide +kernel
theorem dX11_swapColours_82 : decode cX11_swapColours 82 = .ok (.if_icmp .ne 7, 3) := by decide +kernel
theorem dX11_swapColours_85 : decode cX11_swapColours 85 = .ok (.iconst 0, 1) := by decide +kernel
theorem dX11_swapColours_86 : decode cX11_swapColours 86 = .ok (.goto 4, 3) := by decide +kernel
theorem dX11_swapColours_89 : decode cX11_swapColours 89 = .ok (.iconst 1, 1) := by decide +kernel
theorem dX11_swapColours_90 : decode cX11_swapColours 90 = .ok (.iadd, 1) := by decide +kernel
theorem dX11_swapColours_91 : decode cX11_swapColours 91 = .ok (.istore_n 3, 1) := by decide +kernel
theorem dX11_swapColours_92 : decode cX11_swapColours 92 = .ok (.aload_n 0, 1) := by decide +kernel
theorem dX11_swapColours_93 : decode cX11_swapColours 93 = .ok (.getfield 17, 3) := by decide +kernel
theorem dX11_swapColours_96 : decode cX11_swapColours 96 = .ok (.bipush 29, 2) := by decide +kernel
theorem dX11_swapColours_98 : decode cX11_swapColours 98 = .ok (.iload 4, 2) := by decide +kernel
theorem dX11_swapColours_100 : decode cX11_swapColours 100 = .ok (.iadd, 1) := by decide +kernel
theorem dX11_swapColours_101 : decode cX11_swapColours 101 = .ok (.iload 6, 2) := by decide +kernel
theorem dX11_swapColours_103 : decode cX11_swapColours 103 = .ok (.iconst 1, 1) := by decide +kernel
theorem dX11_swapColours_104 : decode cX11_swapColours 104 = .ok (.iadd, 1) := by decide +kernel
theorem dX11_swapColours_105 : decode cX11_swapColours 105 = .ok (.iastore, 1) := by decide +kernel
theorem dX11_swapColours_106 : decode cX11_swapColours 106 = .ok (.iinc 4 1, 3) := by decide +kernel
theorem dX11_swapColours_109 : decode cX11_swapColours 109 = .ok (.goto (-75), 3) := by decide +kernel
theorem dX11_swapColours_112 : decode cX11_swapColours 112 = .ok (.iload_n 3, 1) := by decide +kernel
theorem dX11_swapColours_113 : decode cX11_swapColours 113 = .ok (.ireturn, 1) := by decide +kernel
set_option maxRecDepth 20000 in
theorem ggX11_extend_X11_noSearch : GoodIn wsX11_extend wsX11_noSearch := goodIn_r _ [9, 10, 11, 12, 8, 13, 2, 14, 15, 16, 17, 18, 19, 20, 1, 64, 65, 66, 67, 68, 69, 70, 71, 72, 73, 74, 75, 76, 77, 78, 79, 80, 81, 82, 83, 84, 85, 86, 87, 88, 89, 90, 91] (by decide +kernel) (by decide +kernel)
set_option maxRecDepth 20000 in
theorem gX11_extend_X11_noSearch : GoodIn wsX11_extend (wsV RX11 273 RX11 yX11_noSearch wsX11_noSearch) := goodIn_app (goodIn_of _ (by decide +kernel)) ggX11_extend_X11_noSearch
set_option maxRecDepth 20000 in
theorem ggX11_extend_X11_copy : GoodIn wsX11_extend wsX11_copy := goodIn_r _ [23] (by decide +kernel) (by decide +kernel)
set_option maxRecDepth 20000 in
theorem gX11_extend_X11_copy : GoodIn wsX11_extend (va_wsS RX11 182 yX11_copy wsX11_copy) := goodIn_app (goodIn_of _ (by decide +kernel)) ggX11_extend_X11_copy
set_option maxRecDepth 20000 in
theorem ggX11_extend_X11_search : GoodIn wsX11_extend wsX11_search := goodIn_r _ [27, 28, 29, 30, 2, 31, 32, 33, 8, 34, 35, 36, 37, 38, 39, 40, 41, 42, 43, 44, 45, 46, 47, 48, 49, 50, 51, 52, 53, 54, 55, 56, 57, 64, 65, 66, 67, 68, 69, 70, 71, 72, 73, 74, 75, 76, 77, 78, 79, 80, 81, 82, 83, 84, 85, 86, 87, 88, 89, 90, 91] (by decide +kernel) (by decide +kernel)
set_option maxRecDepth 20000 in
theorem gX11_extend_X11_search : GoodIn wsX11_extend (wsV RX11 276 RX11 yX11_search wsX11_search) := goodIn_app (goodIn_of _ (by decide +kernel)) ggX11_extend_X11_search
set_option maxRecDepth 20000 in
theorem ggX11_extend_X11_remember : GoodIn wsX11_extend wsX11_remember := goodIn_r _ [61, 62, 63, 2, 21, 22, 8, 23, 64, 65, 66, 67, 68, 69, 70, 71, 72, 73, 74, 75, 76, 77, 78, 79, 80, 81, 82, 83, 84, 85, 86, 87, 88, 89, 90, 91] (by decide +kernel) (by decide +kernel)
set_option maxRecDepth 20000 in
theorem gX11_extend_X11_remember : GoodIn wsX11_extend (wsV RX11 179 RX11 yX11_remember wsX11_remember) := goodIn_app (goodIn_of _ (by decide +kernel)) ggX11_extend_X11_remember
theorem dX11_extend_0 : decode cX11_extend 0 = .ok (.aload_n 0, 1) := by decide +kernel
theorem dX11_extend_1 : decode cX11_extend 1 = .ok (.iconst 0, 1) := by decide +kernel
theorem dX11_extend_2 : decode cX11_extend 2 = .ok (.putfield 57, 3) := by decide +kernel
theorem dX11_extend_5 : decode cX11_extend 5 = .ok (.aload_n 0, 1) := by decide +kernel
theorem dX11_extend_6 : decode cX11_extend 6 = .ok (.iload_n 1, 1) := by decide +kernel
theorem dX11_extend_7 : decode cX11_extend 7 = .ok (.iload_n 2, 1) := by decide +kernel
theorem dX11_extend_8 : decode cX11_extend 8 = .ok (.invokevirtual 273, 3) := by decide +kernel
theorem dX11_extend_11 : decode cX11_extend 11 = .ok (.ifCond .eq 5, 3) := by decide +kernel
theorem dX11_extend_14 : decode cX11_extend 14 = .ok (.iconst 0, 1) := by decide +kernel
theorem dX11_extend_15 : decode cX11_extend 15 = .ok (.ireturn, 1) := by decide +kernel
theorem dX11_extend_16 : decode cX11_extend 16 = .ok (.aload_n 0, 1) := by decide +kernel
theorem dX11_extend_17 : decode cX11_extend 17 = .ok (.getfield 17, 3) := by decide +kernel
theorem dX11_extend_20 : decode cX11_extend 20 = .ok (.aload_n 0, 1) := by decide +kernel
theorem dX11_extend_21 : decode cX11_extend 21 = .ok (.getfield 23, 3) := by decide +kernel
theorem dX11_extend_24 : decode cX11_extend 24 = .ok (.invokestatic 182, 3) := by decide +kernel
theorem dX11_extend_27 : decode cX11_extend 27 = .ok (.aload_n 0, 1) := by decide +kernel
theorem dX11_extend_28 : decode cX11_extend 28 = .ok (.iload_n 1, 1) := by decide +kernel
theorem dX11_extend_29 : decode cX11_extend 29 = .ok (.iload_n 2, 1) := by decide +kernel
theorem dX11_extend_30 : decode cX11_extend 30 = .ok (.invokevirtual 276, 3) := by decide +kernel
theorem dX11_extend_33 : decode cX11_extend 33 = .ok (.istore_n 3, 1) := by decide +kernel
theorem dX11_extend_34 : decode cX11_extend 34 = .ok (.aload_n 0, 1) := by decide +kernel
theorem dX11_extend_35 : decode cX11_extend 35 = .ok (.getfield 17, 3) := by decide +kernel
theorem dX11_extend_38 : decode cX11_extend 38 = .ok (.aload_n 0, 1) := by decide +kernel
theorem dX11_extend_39 : decode cX11_extend 39 = .ok (.getfield 20, 3) := by decide +kernel
theorem dX11_extend_42 : decode cX11_extend 42 = .ok (.invokestatic 182, 3) := by decide +kernel
theorem dX11_extend_45 : decode cX11_extend 45 = .ok (.aload_n 0, 1) := by decide +kernel
theorem dX11_extend_46 : decode cX11_extend 46 = .ok (.getfield 23, 3) := by decide +kernel
theorem dX11_extend_49 : decode cX11_extend 49 = .ok (.aload_n 0, 1) := by decide +kernel
theorem dX11_extend_50 : decode cX11_extend 50 = .ok (.getfield 17, 3) := by decide +kernel
theorem dX11_extend_53 : decode cX11_extend 53 = .ok (.invokestatic 182, 3) := by decide +kernel
theorem dX11_extend_56 : decode cX11_extend 56 = .ok (.iload_n 3, 1) := by decide +kernel
theorem dX11_extend_57 : decode cX11_extend 57 = .ok (.ifCond .ge 5, 3) := by decide +kernel
theorem dX11_extend_60 : decode cX11_extend 60 = .ok (.iload_n 3, 1) := by decide +kernel
theorem dX11_extend_61 : decode cX11_extend 61 = .ok (.ireturn, 1) := by decide +kernel
theorem dX11_extend_62 : decode cX11_extend 62 = .ok (.aload_n 0, 1) := by decide +kernel
theorem dX11_extend_63 : decode cX11_extend 63 = .ok (.invokevirtual 179, 3) := by decide +kernel
theorem dX11_extend_66 : decode cX11_extend 66 = .ok (.aload_n 0, 1) := by decide +kernel
theorem dX11_extend_67 : decode cX11_extend 67 = .ok (.getfield 20, 3) := by decide +kernel
theorem dX11_extend_70 : decode cX11_extend 70 = .ok (.aload_n 0, 1) := by decide +kernel
theorem dX11_extend_71 : decode cX11_extend 71 = .ok (.getfield 17, 3) := by decide +kernel
theorem dX11_extend_74 : decode cX11_extend 74 = .ok (.invokestatic 182, 3) := by decide +kernel
theorem dX11_extend_77 : decode cX11_extend 77 = .ok (.iload_n 3, 1) := by decide +kernel
theorem dX11_extend_78 : decode cX11_extend 78 = .ok (.ireturn, 1) := by decide +kernel
set_option maxRecDepth 20000 in
theorem ggX11_repair_X11_in : GoodIn wsX11_repair wsX11_in := goodIn_r _ [8] (by decide +kernel) (by decide +kernel)
set_option maxRecDepth 20000 in
theorem gX11_repair_X11_in : GoodIn wsX11_repair (va_wsS RX11 79 yX11_in wsX11_in) := goodIn_app (goodIn_of _ (by decide +kernel)) ggX11_repair_X11_in
set_option maxRecDepth 20000 in
theorem ggX11_repair_X11_fails : GoodIn wsX11_repair wsX11_fails := goodIn_r _ [12, 1, 68, 69, 70, 71, 72, 73, 74, 75, 76, 77, 78, 79, 80, 81, 82, 83, 84, 85, 86, 87, 88, 89, 90, 91, 92, 93, 94, 95] (by decide +kernel) (by decide +kernel)
set_option maxRecDepth 20000 in
theorem gX11_repair_X11_fails : GoodIn wsX11_repair (wsV RX11 170 RX11 yX11_fails wsX11_fails) := goodIn_app (goodIn_of _ (by decide +kernel)) ggX11_repair_X11_fails
set_option maxRecDepth 20000 in
theorem ggX11_repair_X11_remember : GoodIn wsX11_repair wsX11_remember := goodIn_r _ [16, 17, 18, 2, 19, 20, 7, 21, 68, 69, 70, 71, 72, 73, 74, 75, 76, 77, 78, 79, 80, 81, 82, 83, 84, 85, 86, 87, 88, 89, 90, 91, 92, 93, 94, 95] (by decide +kernel) (by decide +kernel)
set_option maxRecDepth 20000 in
theorem gX11_repair_X11_remember : GoodIn wsX11_repair (wsV RX11 179 RX11 yX11_remember wsX11_remember) := goodIn_app (goodIn_of _ (by decide +kernel)) ggX11_repair_X11_remember
set_option maxRecDepth 20000 in
theorem ggX11_repair_X11_findStep : GoodIn wsX11_repair wsX11_findStep := goodIn_r _ [25, 26, 2, 3, 4, 27, 28, 29, 7, 30, 31, 32, 33, 34, 35, 36, 37, 38, 39, 40, 41, 42, 43, 44, 45, 46, 47, 48, 49, 50, 51, 52, 53, 54, 55, 56, 57, 58, 59, 60, 61, 62, 63, 64, 65, 66, 67, 68, 69, 70, 71, 72, 73, 74, 75, 76, 77, 78, 79, 80, 81, 82, 83, 84, 85, 86, 87, 88, 89, 90, 91, 92, 93, 94, 95] (by decide +kernel) (by decide +kernel)
set_option maxRecDepth 20000 in
theorem gX11_repair_X11_findStep : GoodIn wsX11_repair (wsV RX11 279 RX11 yX11_findStep wsX11_findStep) := goodIn_app (goodIn_of _ (by decide +kernel)) ggX11_repair_X11_findStep
theorem dX11_repair_0 : decode cX11_repair 0 = .ok (.aload_n 0, 1) := by decide +kernel
theorem dX11_repair_1 : decode cX11_repair 1 = .ok (.iconst 0, 1) := by decide +kernel
theorem dX11_repair_2 : decode cX11_repair 2 = .ok (.putfield 57, 3) := by decide +kernel
theorem dX11_repair_5 : decode cX11_repair 5 = .ok (.aload_n 0, 1) := by decide +kernel
theorem dX11_repair_6 : decode cX11_repair 6 = .ok (.iload_n 1, 1) := by decide +kernel
theorem dX11_repair_7 : decode cX11_repair 7 = .ok (.iconst 1, 1) := by decide +kernel
theorem dX11_repair_8 : decode cX11_repair 8 = .ok (.bipush 10, 2) := by decide +kernel
theorem dX11_repair_10 : decode cX11_repair 10 = .ok (.invokestatic 79, 3) := by decide +kernel
theorem dX11_repair_13 : decode cX11_repair 13 = .ok (.ifCond .ne 7, 3) := by decide +kernel
theorem dX11_repair_16 : decode cX11_repair 16 = .ok (.iconst 1, 1) := by decide +kernel
theorem dX11_repair_17 : decode cX11_repair 17 = .ok (.goto 4, 3) := by decide +kernel
theorem dX11_repair_20 : decode cX11_repair 20 = .ok (.iconst 0, 1) := by decide +kernel
theorem dX11_repair_21 : decode cX11_repair 21 = .ok (.iconst 1, 1) := by decide +kernel
theorem dX11_repair_22 : decode cX11_repair 22 = .ok (.invokevirtual 170, 3) := by decide +kernel
theorem dX11_repair_25 : decode cX11_repair 25 = .ok (.ifCond .eq 5, 3) := by decide +kernel
theorem dX11_repair_28 : decode cX11_repair 28 = .ok (.iconst 0, 1) := by decide +kernel
theorem dX11_repair_29 : decode cX11_repair 29 = .ok (.ireturn, 1) := by decide +kernel
theorem dX11_repair_30 : decode cX11_repair 30 = .ok (.aload_n 0, 1) := by decide +kernel
theorem dX11_repair_31 : decode cX11_repair 31 = .ok (.invokevirtual 179, 3) := by decide +kernel
theorem dX11_repair_34 : decode cX11_repair 34 = .ok (.iconst 0, 1) := by decide +kernel
theorem dX11_repair_35 : decode cX11_repair 35 = .ok (.istore_n 2, 1) := by decide +kernel
theorem dX11_repair_36 : decode cX11_repair 36 = .ok (.iload_n 2, 1) := by decide +kernel
theorem dX11_repair_37 : decode cX11_repair 37 = .ok (.iload_n 1, 1) := by decide +kernel
theorem dX11_repair_38 : decode cX11_repair 38 = .ok (.if_icmp .ge 36, 3) := by decide +kernel
theorem dX11_repair_41 : decode cX11_repair 41 = .ok (.aload_n 0, 1) := by decide +kernel
theorem dX11_repair_42 : decode cX11_repair 42 = .ok (.invokevirtual 279, 3) := by decide +kernel
theorem dX11_repair_45 : decode cX11_repair 45 = .ok (.ifCond .gt 5, 3) := by decide +kernel
theorem dX11_repair_48 : decode cX11_repair 48 = .ok (.iload_n 2, 1) := by decide +kernel
theorem dX11_repair_49 : decode cX11_repair 49 = .ok (.ireturn, 1) := by decide +kernel
theorem dX11_repair_50 : decode cX11_repair 50 = .ok (.aload_n 0, 1) := by decide +kernel
theorem dX11_repair_51 : decode cX11_repair 51 = .ok (.getfield 17, 3) := by decide +kernel
theorem dX11_repair_54 : decode cX11_repair 54 = .ok (.bipush 29, 2) := by decide +kernel
theorem dX11_repair_56 : decode cX11_repair 56 = .ok (.aload_n 0, 1) := by decide +kernel
theorem dX11_repair_57 : decode cX11_repair 57 = .ok (.getfield 255, 3) := by decide +kernel
theorem dX11_repair_60 : decode cX11_repair 60 = .ok (.iadd, 1) := by decide +kernel
theorem dX11_repair_61 : decode cX11_repair 61 = .ok (.aload_n 0, 1) := by decide +kernel
theorem dX11_repair_62 : decode cX11_repair 62 = .ok (.getfield 258, 3) := by decide +kernel
theorem dX11_repair_65 : decode cX11_repair 65 = .ok (.iconst 1, 1) := by decide +kernel
theorem dX11_repair_66 : decode cX11_repair 66 = .ok (.iadd, 1) := by decide +kernel
theorem dX11_repair_67 : decode cX11_repair 67 = .ok (.iastore, 1) := by decide +kernel
theorem dX11_repair_68 : decode cX11_repair 68 = .ok (.iinc 2 1, 3) := by decide +kernel
theorem dX11_repair_71 : decode cX11_repair 71 = .ok (.goto (-35), 3) := by decide +kernel
theorem dX11_repair_74 : decode cX11_repair 74 = .ok (.iload_n 1, 1) := by decide +kernel
theorem dX11_repair_75 : decode cX11_repair 75 = .ok (.ireturn, 1) := by decide +kernel
set_option maxRecDepth 20000 in
theorem ggX11_undo_X11_copy : GoodIn wsX11_undo wsX11_copy := goodIn_r _ [8] (by decide +kernel) (by decide +kernel)
set_option maxRecDepth 20000 in
theorem gX11_undo_X11_copy : GoodIn wsX11_undo (va_wsS RX11 182 yX11_copy wsX11_copy) := goodIn_app (goodIn_of _ (by decide +kernel)) ggX11_undo_X11_copy
set_option maxRecDepth 20000 in
theorem ggX11_undo_X11_layAll : GoodIn wsX11_undo wsX11_layAll := goodIn_r _ [12, 13, 4, 14, 15, 16, 17, 18, 7, 19, 20, 21, 22, 23, 24, 25, 26, 27, 28, 29, 30, 31, 32, 33, 34, 35, 36, 37, 38, 39, 40, 41, 42, 43, 44, 45, 46, 47, 48, 49, 50, 51, 52, 53, 54, 55, 56, 57, 58, 59, 60, 61, 62, 63, 64, 65, 66, 67, 68, 69] (by decide +kernel) (by decide +kernel)
set_option maxRecDepth 20000 in
theorem gX11_undo_X11_layAll : GoodIn wsX11_undo (wsV RX11 186 RX11 yX11_layAll wsX11_layAll) := goodIn_app (goodIn_of _ (by decide +kernel)) ggX11_undo_X11_layAll
theorem dX11_undo_0 : decode cX11_undo 0 = .ok (.aload_n 0, 1) := by decide +kernel
theorem dX11_undo_1 : decode cX11_undo 1 = .ok (.iconst 0, 1) := by decide +kernel
theorem dX11_undo_2 : decode cX11_undo 2 = .ok (.putfield 57, 3) := by decide +kernel
theorem dX11_undo_5 : decode cX11_undo 5 = .ok (.aload_n 0, 1) := by decide +kernel
theorem dX11_undo_6 : decode cX11_undo 6 = .ok (.getfield 282, 3) := by decide +kernel
theorem dX11_undo_9 : decode cX11_undo 9 = .ok (.ifCond .ne 5, 3) := by decide +kernel
theorem dX11_undo_12 : decode cX11_undo 12 = .ok (.iconst (-1), 1) := by decide +kernel
theorem dX11_undo_13 : decode cX11_undo 13 = .ok (.ireturn, 1) := by decide +kernel
theorem dX11_undo_14 : decode cX11_undo 14 = .ok (.aload_n 0, 1) := by decide +kernel
theorem dX11_undo_15 : decode cX11_undo 15 = .ok (.dup, 1) := by decide +kernel
theorem dX11_undo_16 : decode cX11_undo 16 = .ok (.getfield 282, 3) := by decide +kernel
theorem dX11_undo_19 : decode cX11_undo 19 = .ok (.iconst 1, 1) := by decide +kernel
theorem dX11_undo_20 : decode cX11_undo 20 = .ok (.isub, 1) := by decide +kernel
theorem dX11_undo_21 : decode cX11_undo 21 = .ok (.putfield 282, 3) := by decide +kernel
theorem dX11_undo_24 : decode cX11_undo 24 = .ok (.aload_n 0, 1) := by decide +kernel
theorem dX11_undo_25 : decode cX11_undo 25 = .ok (.getfield 28, 3) := by decide +kernel
theorem dX11_undo_28 : decode cX11_undo 28 = .ok (.aload_n 0, 1) := by decide +kernel
theorem dX11_undo_29 : decode cX11_undo 29 = .ok (.getfield 282, 3) := by decide +kernel
theorem dX11_undo_32 : decode cX11_undo 32 = .ok (.aaload, 1) := by decide +kernel
theorem dX11_undo_33 : decode cX11_undo 33 = .ok (.aload_n 0, 1) := by decide +kernel
theorem dX11_undo_34 : decode cX11_undo 34 = .ok (.getfield 17, 3) := by decide +kernel
theorem dX11_undo_37 : decode cX11_undo 37 = .ok (.invokestatic 182, 3) := by decide +kernel
theorem dX11_undo_40 : decode cX11_undo 40 = .ok (.aload_n 0, 1) := by decide +kernel
theorem dX11_undo_41 : decode cX11_undo 41 = .ok (.invokevirtual 186, 3) := by decide +kernel
theorem dX11_undo_44 : decode cX11_undo 44 = .ok (.aload_n 0, 1) := by decide +kernel
theorem dX11_undo_45 : decode cX11_undo 45 = .ok (.getfield 282, 3) := by decide +kernel
theorem dX11_undo_48 : decode cX11_undo 48 = .ok (.ireturn, 1) := by decide +kernel
set_option maxRecDepth 20000 in
theorem ggX11_checksum_X11_colourOf : GoodIn wsX11_checksum wsX11_colourOf := goodIn_r _ [8, 2, 49, 50, 51, 52, 53, 54, 55, 56, 57, 58, 59, 60, 61, 62, 63, 64, 65, 66, 67, 68, 69, 70, 71, 72, 73, 74, 75, 76] (by decide +kernel) (by decide +kernel)
set_option maxRecDepth 20000 in
theorem gX11_checksum_X11_colourOf : GoodIn wsX11_checksum (wsV RX11 206 RX11 yX11_colourOf wsX11_colourOf) := goodIn_app (goodIn_of _ (by decide +kernel)) ggX11_checksum_X11_colourOf
set_option maxRecDepth 20000 in
theorem ggX11_checksum_X11_countAll : GoodIn wsX11_checksum wsX11_countAll := goodIn_r _ [12, 13, 14, 15, 16, 7, 17, 18, 19, 4, 5, 6, 8, 2, 49, 50, 51, 52, 53, 54, 55, 56, 57, 58, 59, 60, 61, 62, 63, 64, 65, 66, 67, 68, 69, 70, 71, 72, 73, 74, 75, 76] (by decide +kernel) (by decide +kernel)
set_option maxRecDepth 20000 in
theorem gX11_checksum_X11_countAll : GoodIn wsX11_checksum (wsV RX11 267 RX11 yX11_countAll wsX11_countAll) := goodIn_app (goodIn_of _ (by decide +kernel)) ggX11_checksum_X11_countAll
set_option maxRecDepth 20000 in
theorem ggX11_checksum_X11_weightAll : GoodIn wsX11_checksum wsX11_weightAll := goodIn_r _ [23, 13, 14, 15, 16, 7, 17, 18, 19, 4, 5, 6, 8, 2, 24, 25, 26, 27, 28, 29, 30, 31, 32, 33, 34, 35, 36, 37, 38, 39, 40, 41, 42, 43, 44, 45, 46, 47, 48, 49, 50, 51, 52, 53, 54, 55, 56, 57, 58, 59, 60, 61, 62, 63, 64, 65, 66, 67, 68, 69, 70, 71, 72, 73, 74, 75, 76] (by decide +kernel) (by decide +kernel)
set_option maxRecDepth 20000 in
theorem gX11_checksum_X11_weightAll : GoodIn wsX11_checksum (wsV RX11 270 RX11 yX11_weightAll wsX11_weightAll) := goodIn_app (goodIn_of _ (by decide +kernel)) ggX11_checksum_X11_weightAll
theorem dX11_checksum_0 : decode cX11_checksum 0 = .ok (.aload_n 0, 1) := by decide +kernel
theorem dX11_checksum_1 : decode cX11_checksum 1 = .ok (.iconst 0, 1) := by decide +kernel
theorem dX11_checksum_2 : decode cX11_checksum 2 = .ok (.putfield 57, 3) := by decide +kernel
theorem dX11_checksum_5 : decode cX11_checksum 5 = .ok (.lconst 0, 1) := by decide +kernel
theorem dX11_checksum_6 : decode cX11_checksum 6 = .ok (.lstore_n 1, 1) := by decide +kernel
theorem dX11_checksum_7 : decode cX11_checksum 7 = .ok (.iconst 1, 1) := by decide +kernel
theorem dX11_checksum_8 : decode cX11_checksum 8 = .ok (.istore_n 3, 1) := by decide +kernel
theorem dX11_checksum_9 : decode cX11_checksum 9 = .ok (.iload_n 3, 1) := by decide +kernel
theorem dX11_checksum_10 : decode cX11_checksum 10 = .ok (.aload_n 0, 1) := by decide +kernel
theorem dX11_checksum_11 : decode cX11_checksum 11 = .ok (.getfield 17, 3) := by decide +kernel
theorem dX11_checksum_14 : decode cX11_checksum 14 = .ok (.iconst 0, 1) := by decide +kernel
theorem dX11_checksum_15 : decode cX11_checksum 15 = .ok (.iaload, 1) := by decide +kernel
theorem dX11_checksum_16 : decode cX11_checksum 16 = .ok (.if_icmp .gt 37, 3) := by decide +kernel
theorem dX11_checksum_19 : decode cX11_checksum 19 = .ok (.ldc2_w 285, 3) := by decide +kernel
theorem dX11_checksum_22 : decode cX11_checksum 22 = .ok (.ldc2_w 285, 3) := by decide +kernel
theorem dX11_checksum_25 : decode cX11_checksum 25 = .ok (.lload_n 1, 1) := by decide +kernel
theorem dX11_checksum_26 : decode cX11_checksum 26 = .ok (.lmul, 1) := by decide +kernel
theorem dX11_checksum_27 : decode cX11_checksum 27 = .ok (.aload_n 0, 1) := by decide +kernel
theorem dX11_checksum_28 : decode cX11_checksum 28 = .ok (.iload_n 3, 1) := by decide +kernel
theorem dX11_checksum_29 : decode cX11_checksum 29 = .ok (.invokevirtual 206, 3) := by decide +kernel
theorem dX11_checksum_32 : decode cX11_checksum 32 = .ok (.i2l, 1) := by decide +kernel
theorem dX11_checksum_33 : decode cX11_checksum 33 = .ok (.ladd, 1) := by decide +kernel
theorem dX11_checksum_34 : decode cX11_checksum 34 = .ok (.lmul, 1) := by decide +kernel
theorem dX11_checksum_35 : decode cX11_checksum 35 = .ok (.aload_n 0, 1) := by decide +kernel
theorem dX11_checksum_36 : decode cX11_checksum 36 = .ok (.getfield 17, 3) := by decide +kernel
theorem dX11_checksum_39 : decode cX11_checksum 39 = .ok (.bipush 70, 2) := by decide +kernel
theorem dX11_checksum_41 : decode cX11_checksum 41 = .ok (.iload_n 3, 1) := by decide +kernel
theorem dX11_checksum_42 : decode cX11_checksum 42 = .ok (.iadd, 1) := by decide +kernel
theorem dX11_checksum_43 : decode cX11_checksum 43 = .ok (.iaload, 1) := by decide +kernel
theorem dX11_checksum_44 : decode cX11_checksum 44 = .ok (.i2l, 1) := by decide +kernel
theorem dX11_checksum_45 : decode cX11_checksum 45 = .ok (.ladd, 1) := by decide +kernel
theorem dX11_checksum_46 : decode cX11_checksum 46 = .ok (.lstore_n 1, 1) := by decide +kernel
theorem dX11_checksum_47 : decode cX11_checksum 47 = .ok (.iinc 3 1, 3) := by decide +kernel
theorem dX11_checksum_50 : decode cX11_checksum 50 = .ok (.goto (-41), 3) := by decide +kernel
theorem dX11_checksum_53 : decode cX11_checksum 53 = .ok (.ldc2_w 285, 3) := by decide +kernel
theorem dX11_checksum_56 : decode cX11_checksum 56 = .ok (.ldc2_w 285, 3) := by decide +kernel
theorem dX11_checksum_59 : decode cX11_checksum 59 = .ok (.lload_n 1, 1) := by decide +kernel
theorem dX11_checksum_60 : decode cX11_checksum 60 = .ok (.lmul, 1) := by decide +kernel
theorem dX11_checksum_61 : decode cX11_checksum 61 = .ok (.aload_n 0, 1) := by decide +kernel
theorem dX11_checksum_62 : decode cX11_checksum 62 = .ok (.invokevirtual 267, 3) := by decide +kernel
theorem dX11_checksum_65 : decode cX11_checksum 65 = .ok (.i2l, 1) := by decide +kernel
theorem dX11_checksum_66 : decode cX11_checksum 66 = .ok (.ladd, 1) := by decide +kernel
theorem dX11_checksum_67 : decode cX11_checksum 67 = .ok (.lmul, 1) := by decide +kernel
theorem dX11_checksum_68 : decode cX11_checksum 68 = .ok (.aload_n 0, 1) := by decide +kernel
theorem dX11_checksum_69 : decode cX11_checksum 69 = .ok (.invokevirtual 270, 3) := by decide +kernel
theorem dX11_checksum_72 : decode cX11_checksum 72 = .ok (.i2l, 1) := by decide +kernel
theorem dX11_checksum_73 : decode cX11_checksum 73 = .ok (.ladd, 1) := by decide +kernel
theorem dX11_checksum_74 : decode cX11_checksum 74 = .ok (.lreturn, 1) := by decide +kernel
theorem dJ13_bitCount_95d88_0 : decode cJ13_bitCount_95d88 0 = .ok (.lload_n 0, 1) := by decide +kernel
theorem dJ13_bitCount_95d88_1 : decode cJ13_bitCount_95d88 1 = .ok (.lload_n 0, 1) := by decide +kernel
theorem dJ13_bitCount_95d88_2 : decode cJ13_bitCount_95d88 2 = .ok (.iconst 1, 1) := by decide +kernel
theorem dJ13_bitCount_95d88_3 : decode cJ13_bitCount_95d88 3 = .ok (.lushr, 1) := by decide +kernel
theorem dJ13_bitCount_95d88_4 : decode cJ13_bitCount_95d88 4 = .ok (.ldc2_w 314, 3) := by decide +kernel
theorem dJ13_bitCount_95d88_7 : decode cJ13_bitCount_95d88 7 = .ok (.land, 1) := by decide +kernel
theorem dJ13_bitCount_95d88_8 : decode cJ13_bitCount_95d88 8 = .ok (.lsub, 1) := by decide +kernel
theorem dJ13_bitCount_95d88_9 : decode cJ13_bitCount_95d88 9 = .ok (.lstore_n 0, 1) := by decide +kernel
theorem dJ13_bitCount_95d88_10 : decode cJ13_bitCount_95d88 10 = .ok (.lload_n 0, 1) := by decide +kernel
theorem dJ13_bitCount_95d88_11 : decode cJ13_bitCount_95d88 11 = .ok (.ldc2_w 316, 3) := by decide +kernel
theorem dJ13_bitCount_95d88_14 : decode cJ13_bitCount_95d88 14 = .ok (.land, 1) := by decide +kernel
theorem dJ13_bitCount_95d88_15 : decode cJ13_bitCount_95d88 15 = .ok (.lload_n 0, 1) := by decide +kernel
theorem dJ13_bitCount_95d88_16 : decode cJ13_bitCount_95d88 16 = .ok (.iconst 2, 1) := by decide +kernel
theorem dJ13_bitCount_95d88_17 : decode cJ13_bitCount_95d88 17 = .ok (.lushr, 1) := by decide +kernel
theorem dJ13_bitCount_95d88_18 : decode cJ13_bitCount_95d88 18 = .ok (.ldc2_w 316, 3) := by decide +kernel
theorem dJ13_bitCount_95d88_21 : decode cJ13_bitCount_95d88 21 = .ok (.land, 1) := by decide +kernel
theorem dJ13_bitCount_95d88_22 : decode cJ13_bitCount_95d88 22 = .ok (.ladd, 1) := by decide +kernel
theorem dJ13_bitCount_95d88_23 : decode cJ13_bitCount_95d88 23 = .ok (.lstore_n 0, 1) := by decide +kernel
theorem dJ13_bitCount_95d88_24 : decode cJ13_bitCount_95d88 24 = .ok (.lload_n 0, 1) := by decide +kernel
theorem dJ13_bitCount_95d88_25 : decode cJ13_bitCount_95d88 25 = .ok (.lload_n 0, 1) := by decide +kernel
theorem dJ13_bitCount_95d88_26 : decode cJ13_bitCount_95d88 26 = .ok (.iconst 4, 1) := by decide +kernel
theorem dJ13_bitCount_95d88_27 : decode cJ13_bitCount_95d88 27 = .ok (.lushr, 1) := by decide +kernel
theorem dJ13_bitCount_95d88_28 : decode cJ13_bitCount_95d88 28 = .ok (.ladd, 1) := by decide +kernel
theorem dJ13_bitCount_95d88_29 : decode cJ13_bitCount_95d88 29 = .ok (.ldc2_w 318, 3) := by decide +kernel
theorem dJ13_bitCount_95d88_32 : decode cJ13_bitCount_95d88 32 = .ok (.land, 1) := by decide +kernel
theorem dJ13_bitCount_95d88_33 : decode cJ13_bitCount_95d88 33 = .ok (.lstore_n 0, 1) := by decide +kernel
theorem dJ13_bitCount_95d88_34 : decode cJ13_bitCount_95d88 34 = .ok (.lload_n 0, 1) := by decide +kernel
theorem dJ13_bitCount_95d88_35 : decode cJ13_bitCount_95d88 35 = .ok (.lload_n 0, 1) := by decide +kernel
theorem dJ13_bitCount_95d88_36 : decode cJ13_bitCount_95d88 36 = .ok (.bipush 8, 2) := by decide +kernel
theorem dJ13_bitCount_95d88_38 : decode cJ13_bitCount_95d88 38 = .ok (.lushr, 1) := by decide +kernel
theorem dJ13_bitCount_95d88_39 : decode cJ13_bitCount_95d88 39 = .ok (.ladd, 1) := by decide +kernel
theorem dJ13_bitCount_95d88_40 : decode cJ13_bitCount_95d88 40 = .ok (.lstore_n 0, 1) := by decide +kernel
theorem dJ13_bitCount_95d88_41 : decode cJ13_bitCount_95d88 41 = .ok (.lload_n 0, 1) := by decide +kernel
theorem dJ13_bitCount_95d88_42 : decode cJ13_bitCount_95d88 42 = .ok (.lload_n 0, 1) := by decide +kernel
theorem dJ13_bitCount_95d88_43 : decode cJ13_bitCount_95d88 43 = .ok (.bipush 16, 2) := by decide +kernel
theorem dJ13_bitCount_95d88_45 : decode cJ13_bitCount_95d88 45 = .ok (.lushr, 1) := by decide +kernel
theorem dJ13_bitCount_95d88_46 : decode cJ13_bitCount_95d88 46 = .ok (.ladd, 1) := by decide +kernel
theorem dJ13_bitCount_95d88_47 : decode cJ13_bitCount_95d88 47 = .ok (.lstore_n 0, 1) := by decide +kernel
theorem dJ13_bitCount_95d88_48 : decode cJ13_bitCount_95d88 48 = .ok (.lload_n 0, 1) := by decide +kernel
theorem dJ13_bitCount_95d88_49 : decode cJ13_bitCount_95d88 49 = .ok (.lload_n 0, 1) := by decide +kernel
theorem dJ13_bitCount_95d88_50 : decode cJ13_bitCount_95d88 50 = .ok (.bipush 32, 2) := by decide +kernel
theorem dJ13_bitCount_95d88_52 : decode cJ13_bitCount_95d88 52 = .ok (.lushr, 1) := by decide +kernel
theorem dJ13_bitCount_95d88_53 : decode cJ13_bitCount_95d88 53 = .ok (.ladd, 1) := by decide +kernel
theorem dJ13_bitCount_95d88_54 : decode cJ13_bitCount_95d88 54 = .ok (.lstore_n 0, 1) := by decide +kernel
theorem dJ13_bitCount_95d88_55 : decode cJ13_bitCount_95d88 55 = .ok (.lload_n 0, 1) := by decide +kernel
theorem dJ13_bitCount_95d88_56 : decode cJ13_bitCount_95d88 56 = .ok (.l2i, 1) := by decide +kernel
theorem dJ13_bitCount_95d88_57 : decode cJ13_bitCount_95d88 57 = .ok (.bipush 127, 2) := by decide +kernel
theorem dJ13_bitCount_95d88_59 : decode cJ13_bitCount_95d88 59 = .ok (.iand, 1) := by decide +kernel
theorem dJ13_bitCount_95d88_60 : decode cJ13_bitCount_95d88 60 = .ok (.ireturn, 1) := by decide +kernel
theorem dJ9_max_7cf53_0 : decode cJ9_max_7cf53 0 = .ok (.iload_n 0, 1) := by decide +kernel
theorem dJ9_max_7cf53_1 : decode cJ9_max_7cf53 1 = .ok (.iload_n 1, 1) := by decide +kernel
theorem dJ9_max_7cf53_2 : decode cJ9_max_7cf53 2 = .ok (.if_icmp .lt 7, 3) := by decide +kernel
theorem dJ9_max_7cf53_5 : decode cJ9_max_7cf53 5 = .ok (.iload_n 0, 1) := by decide +kernel
theorem dJ9_max_7cf53_6 : decode cJ9_max_7cf53 6 = .ok (.goto 4, 3) := by decide +kernel
theorem dJ9_max_7cf53_9 : decode cJ9_max_7cf53 9 = .ok (.iload_n 1, 1) := by decide +kernel
theorem dJ9_max_7cf53_10 : decode cJ9_max_7cf53 10 = .ok (.ireturn, 1) := by decide +kernel
theorem dJ9_max_f86c9_0 : decode cJ9_max_f86c9 0 = .ok (.lload_n 0, 1) := by decide +kernel
theorem dJ9_max_f86c9_1 : decode cJ9_max_f86c9 1 = .ok (.lload_n 2, 1) := by decide +kernel
theorem dJ9_max_f86c9_2 : decode cJ9_max_f86c9 2 = .ok (.lcmp, 1) := by decide +kernel
theorem dJ9_max_f86c9_3 : decode cJ9_max_f86c9 3 = .ok (.ifCond .lt 7, 3) := by decide +kernel
theorem dJ9_max_f86c9_6 : decode cJ9_max_f86c9 6 = .ok (.lload_n 0, 1) := by decide +kernel
theorem dJ9_max_f86c9_7 : decode cJ9_max_f86c9 7 = .ok (.goto 4, 3) := by decide +kernel
theorem dJ9_max_f86c9_10 : decode cJ9_max_f86c9 10 = .ok (.lload_n 2, 1) := by decide +kernel
theorem dJ9_max_f86c9_11 : decode cJ9_max_f86c9 11 = .ok (.lreturn, 1) := by decide +kernel
theorem dJ9_min_7cf53_0 : decode cJ9_min_7cf53 0 = .ok (.iload_n 0, 1) := by decide +kernel
theorem dJ9_min_7cf53_1 : decode cJ9_min_7cf53 1 = .ok (.iload_n 1, 1) := by decide +kernel
theorem dJ9_min_7cf53_2 : decode cJ9_min_7cf53 2 = .ok (.if_icmp .gt 7, 3) := by decide +kernel
theorem dJ9_min_7cf53_5 : decode cJ9_min_7cf53 5 = .ok (.iload_n 0, 1) := by decide +kernel
theorem dJ9_min_7cf53_6 : decode cJ9_min_7cf53 6 = .ok (.goto 4, 3) := by decide +kernel
theorem dJ9_min_7cf53_9 : decode cJ9_min_7cf53 9 = .ok (.iload_n 1, 1) := by decide +kernel
theorem dJ9_min_7cf53_10 : decode cJ9_min_7cf53 10 = .ok (.ireturn, 1) := by decide +kernel
theorem dJ9_min_f86c9_0 : decode cJ9_min_f86c9 0 = .ok (.lload_n 0, 1) := by decide +kernel
theorem dJ9_min_f86c9_1 : decode cJ9_min_f86c9 1 = .ok (.lload_n 2, 1) := by decide +kernel
theorem dJ9_min_f86c9_2 : decode cJ9_min_f86c9 2 = .ok (.lcmp, 1) := by decide +kernel
theorem dJ9_min_f86c9_3 : decode cJ9_min_f86c9 3 = .ok (.ifCond .gt 7, 3) := by decide +kernel
theorem dJ9_min_f86c9_6 : decode cJ9_min_f86c9 6 = .ok (.lload_n 0, 1) := by decide +kernel
theorem dJ9_min_f86c9_7 : decode cJ9_min_f86c9 7 = .ok (.goto 4, 3) := by decide +kernel
theorem dJ9_min_f86c9_10 : decode cJ9_min_f86c9 10 = .ok (.lload_n 2, 1) := by decide +kernel
theorem dJ9_min_f86c9_11 : decode cJ9_min_f86c9 11 = .ok (.lreturn, 1) := by decide +kernel
set_option maxRecDepth 20000 in
theorem ggJ0_length_8abf5_J0_coder_7d493 : GoodIn wsJ0_length_8abf5 wsJ0_coder_7d493 := goodIn_r _ [6, 7, 8] (by decide +kernel) (by decide +kernel)
set_option maxRecDepth 20000 in
theorem gJ0_length_8abf5_J0_coder_7d493 : GoodIn wsJ0_length_8abf5 (wsV RJ0 335 RJ0 yJ0_coder_7d493 wsJ0_coder_7d493) := goodIn_app (goodIn_of _ (by decide +kernel)) ggJ0_length_8abf5_J0_coder_7d493
theorem dJ0_length_8abf5_0 : decode cJ0_length_8abf5 0 = .ok (.aload_n 0, 1) := by decide +kernel
theorem dJ0_length_8abf5_1 : decode cJ0_length_8abf5 1 = .ok (.getfield 9, 3) := by decide +kernel
theorem dJ0_length_8abf5_4 : decode cJ0_length_8abf5 4 = .ok (.arraylength, 1) := by decide +kernel
theorem dJ0_length_8abf5_5 : decode cJ0_length_8abf5 5 = .ok (.aload_n 0, 1) := by decide +kernel
theorem dJ0_length_8abf5_6 : decode cJ0_length_8abf5 6 = .ok (.invokevirtual 335, 3) := by decide +kernel
theorem dJ0_length_8abf5_9 : decode cJ0_length_8abf5 9 = .ok (.ishr, 1) := by decide +kernel
theorem dJ0_length_8abf5_10 : decode cJ0_length_8abf5 10 = .ok (.ireturn, 1) := by decide +kernel
set_option maxRecDepth 20000 in
theorem ggJ0_charAt_5068e_J0_isLatin1_aae02 : GoodIn wsJ0_charAt_5068e wsJ0_isLatin1_aae02 := goodIn_r _ [6, 7, 8] (by decide +kernel) (by decide +kernel)
set_option maxRecDepth 20000 in
theorem gJ0_charAt_5068e_J0_isLatin1_aae02 : GoodIn wsJ0_charAt_5068e (wsV RJ0 492 RJ0 yJ0_isLatin1_aae02 wsJ0_isLatin1_aae02) := goodIn_app (goodIn_of _ (by decide +kernel)) ggJ0_charAt_5068e_J0_isLatin1_aae02
set_option maxRecDepth 20000 in
theorem ggJ0_charAt_5068e_J1_charAt_3b067 : GoodIn wsJ0_charAt_5068e wsJ1_charAt_3b067 := goodIn_r _ [12, 13, 14, 5, 15, 16, 17, 18, 19, 20] (by decide +kernel) (by decide +kernel)
set_option maxRecDepth 20000 in
theorem gJ0_charAt_5068e_J1_charAt_3b067 : GoodIn wsJ0_charAt_5068e (va_wsS RJ0 495 yJ1_charAt_3b067 wsJ1_charAt_3b067) := goodIn_app (goodIn_of _ (by decide +kernel)) ggJ0_charAt_5068e_J1_charAt_3b067
set_option maxRecDepth 20000 in
theorem ggJ0_charAt_5068e_J2_charAt_3b067 : GoodIn wsJ0_charAt_5068e wsJ2_charAt_3b067 := goodIn_r _ [24, 25, 26, 23, 27, 28, 29, 30, 31, 14, 5, 15, 16, 17, 18, 19, 20, 32, 33, 34, 35, 36, 37] (by decide +kernel) (by decide +kernel)
set_option maxRecDepth 20000 in
theorem gJ0_charAt_5068e_J2_charAt_3b067 : GoodIn wsJ0_charAt_5068e (va_wsS RJ0 498 yJ2_charAt_3b067 wsJ2_charAt_3b067) := goodIn_app (goodIn_of _ (by decide +kernel)) ggJ0_charAt_5068e_J2_charAt_3b067
theorem dJ0_charAt_5068e_0 : decode cJ0_charAt_5068e 0 = .ok (.aload_n 0, 1) := by decide +kernel
theorem dJ0_charAt_5068e_1 : decode cJ0_charAt_5068e 1 = .ok (.invokevirtual 492, 3) := by decide +kernel
theorem dJ0_charAt_5068e_4 : decode cJ0_charAt_5068e 4 = .ok (.ifCond .eq 12, 3) := by decide +kernel
theorem dJ0_charAt_5068e_7 : decode cJ0_charAt_5068e 7 = .ok (.aload_n 0, 1) := by decide +kernel
theorem dJ0_charAt_5068e_8 : decode cJ0_charAt_5068e 8 = .ok (.getfield 9, 3) := by decide +kernel
theorem dJ0_charAt_5068e_11 : decode cJ0_charAt_5068e 11 = .ok (.iload_n 1, 1) := by decide +kernel
theorem dJ0_charAt_5068e_12 : decode cJ0_charAt_5068e 12 = .ok (.invokestatic 495, 3) := by decide +kernel
theorem dJ0_charAt_5068e_15 : decode cJ0_charAt_5068e 15 = .ok (.ireturn, 1) := by decide +kernel
theorem dJ0_charAt_5068e_16 : decode cJ0_charAt_5068e 16 = .ok (.aload_n 0, 1) := by decide +kernel
theorem dJ0_charAt_5068e_17 : decode cJ0_charAt_5068e 17 = .ok (.getfield 9, 3) := by decide +kernel
theorem dJ0_charAt_5068e_20 : decode cJ0_charAt_5068e 20 = .ok (.iload_n 1, 1) := by decide +kernel
theorem dJ0_charAt_5068e_21 : decode cJ0_charAt_5068e 21 = .ok (.invokestatic 498, 3) := by decide +kernel
theorem dJ0_charAt_5068e_24 : decode cJ0_charAt_5068e 24 = .ok (.ireturn, 1) := by decide +kernel
theorem dJ0_coder_7d493_0 : decode cJ0_coder_7d493 0 = .ok (.getstatic 38, 3) := by decide +kernel
theorem dJ0_coder_7d493_3 : decode cJ0_coder_7d493 3 = .ok (.ifCond .eq 10, 3) := by decide +kernel
theorem dJ0_coder_7d493_6 : decode cJ0_coder_7d493 6 = .ok (.aload_n 0, 1) := by decide +kernel
theorem dJ0_coder_7d493_7 : decode cJ0_coder_7d493 7 = .ok (.getfield 15, 3) := by decide +kernel
theorem dJ0_coder_7d493_10 : decode cJ0_coder_7d493 10 = .ok (.goto 4, 3) := by decide +kernel
theorem dJ0_coder_7d493_13 : decode cJ0_coder_7d493 13 = .ok (.iconst 1, 1) := by decide +kernel
theorem dJ0_coder_7d493_14 : decode cJ0_coder_7d493 14 = .ok (.ireturn, 1) := by decide +kernel
theorem dJ0_isLatin1_aae02_0 : decode cJ0_isLatin1_aae02 0 = .ok (.getstatic 38, 3) := by decide +kernel
theorem dJ0_isLatin1_aae02_3 : decode cJ0_isLatin1_aae02 3 = .ok (.ifCond .eq 14, 3) := by decide +kernel
theorem dJ0_isLatin1_aae02_6 : decode cJ0_isLatin1_aae02 6 = .ok (.aload_n 0, 1) := by decide +kernel
theorem dJ0_isLatin1_aae02_7 : decode cJ0_isLatin1_aae02 7 = .ok (.getfield 15, 3) := by decide +kernel
theorem dJ0_isLatin1_aae02_10 : decode cJ0_isLatin1_aae02 10 = .ok (.ifCond .ne 7, 3) := by decide +kernel
theorem dJ0_isLatin1_aae02_13 : decode cJ0_isLatin1_aae02 13 = .ok (.iconst 1, 1) := by decide +kernel
theorem dJ0_isLatin1_aae02_14 : decode cJ0_isLatin1_aae02 14 = .ok (.goto 4, 3) := by decide +kernel
theorem dJ0_isLatin1_aae02_17 : decode cJ0_isLatin1_aae02 17 = .ok (.iconst 0, 1) := by decide +kernel
theorem dJ0_isLatin1_aae02_18 : decode cJ0_isLatin1_aae02 18 = .ok (.ireturn, 1) := by decide +kernel
set_option maxRecDepth 20000 in
theorem ggJ0_checkIndex_df160_J3_checkIndex_8e157 : GoodIn wsJ0_checkIndex_df160 wsJ3_checkIndex_8e157 := goodIn_r _ [5] (by decide +kernel) (by decide +kernel)
set_option maxRecDepth 20000 in
theorem gJ0_checkIndex_df160_J3_checkIndex_8e157 : GoodIn wsJ0_checkIndex_df160 (va_wsS RJ0 1059 yJ3_checkIndex_8e157 wsJ3_checkIndex_8e157) := goodIn_app (goodIn_of _ (by decide +kernel)) ggJ0_checkIndex_df160_J3_checkIndex_8e157
theorem dJ0_checkIndex_df160_0 : decode cJ0_checkIndex_df160 0 = .ok (.iload_n 0, 1) := by decide +kernel
theorem dJ0_checkIndex_df160_1 : decode cJ0_checkIndex_df160 1 = .ok (.iload_n 1, 1) := by decide +kernel
theorem dJ0_checkIndex_df160_2 : decode cJ0_checkIndex_df160 2 = .ok (.getstatic 1053, 3) := by decide +kernel
theorem dJ0_checkIndex_df160_5 : decode cJ0_checkIndex_df160 5 = .ok (.invokestatic 1059, 3) := by decide +kernel
theorem dJ0_checkIndex_df160_8 : decode cJ0_checkIndex_df160 8 = .ok (.pop, 1) := by decide +kernel
theorem dJ0_checkIndex_df160_9 : decode cJ0_checkIndex_df160 9 = .ok (.return_, 1) := by decide +kernel
set_option maxRecDepth 20000 in
theorem ggJ1_charAt_3b067_J0_checkIndex_df160 : GoodIn wsJ1_charAt_3b067 wsJ0_checkIndex_df160 := goodIn_r _ [4, 5, 6, 7, 8, 9] (by decide +kernel) (by decide +kernel)
set_option maxRecDepth 20000 in
theorem gJ1_charAt_3b067_J0_checkIndex_df160 : GoodIn wsJ1_charAt_3b067 (va_wsS RJ1 9 yJ0_checkIndex_df160 wsJ0_checkIndex_df160) := goodIn_app (goodIn_of _ (by decide +kernel)) ggJ1_charAt_3b067_J0_checkIndex_df160
theorem dJ1_charAt_3b067_0 : decode cJ1_charAt_3b067 0 = .ok (.iload_n 1, 1) := by decide +kernel
theorem dJ1_charAt_3b067_1 : decode cJ1_charAt_3b067 1 = .ok (.aload_n 0, 1) := by decide +kernel
theorem dJ1_charAt_3b067_2 : decode cJ1_charAt_3b067 2 = .ok (.arraylength, 1) := by decide +kernel
theorem dJ1_charAt_3b067_3 : decode cJ1_charAt_3b067 3 = .ok (.invokestatic 9, 3) := by decide +kernel
theorem dJ1_charAt_3b067_6 : decode cJ1_charAt_3b067 6 = .ok (.aload_n 0, 1) := by decide +kernel
theorem dJ1_charAt_3b067_7 : decode cJ1_charAt_3b067 7 = .ok (.iload_n 1, 1) := by decide +kernel
theorem dJ1_charAt_3b067_8 : decode cJ1_charAt_3b067 8 = .ok (.baload, 1) := by decide +kernel
theorem dJ1_charAt_3b067_9 : decode cJ1_charAt_3b067 9 = .ok (.sipush 255, 3) := by decide +kernel
theorem dJ1_charAt_3b067_12 : decode cJ1_charAt_3b067 12 = .ok (.iand, 1) := by decide +kernel
theorem dJ1_charAt_3b067_13 : decode cJ1_charAt_3b067 13 = .ok (.i2c, 1) := by decide +kernel
theorem dJ1_charAt_3b067_14 : decode cJ1_charAt_3b067 14 = .ok (.ireturn, 1) := by decide +kernel
set_option maxRecDepth 20000 in
theorem ggJ2_getChar_3b067_J2_length_9d52b : GoodIn wsJ2_getChar_3b067 wsJ2_length_9d52b := goodIn_r _ [7] (by decide +kernel) (by decide +kernel)
set_option maxRecDepth 20000 in
theorem gJ2_getChar_3b067_J2_length_9d52b : GoodIn wsJ2_getChar_3b067 (va_wsS RJ2 48 yJ2_length_9d52b wsJ2_length_9d52b) := goodIn_app (goodIn_of _ (by decide +kernel)) ggJ2_getChar_3b067_J2_length_9d52b
theorem dJ2_getChar_3b067_0 : decode cJ2_getChar_3b067 0 = .ok (.getstatic 44, 3) := by decide +kernel
theorem dJ2_getChar_3b067_3 : decode cJ2_getChar_3b067 3 = .ok (.ifCond .ne 25, 3) := by decide +kernel
theorem dJ2_getChar_3b067_6 : decode cJ2_getChar_3b067 6 = .ok (.iload_n 1, 1) := by decide +kernel
theorem dJ2_getChar_3b067_7 : decode cJ2_getChar_3b067 7 = .ok (.ifCond .lt 11, 3) := by decide +kernel
theorem dJ2_getChar_3b067_10 : decode cJ2_getChar_3b067 10 = .ok (.iload_n 1, 1) := by decide +kernel
theorem dJ2_getChar_3b067_11 : decode cJ2_getChar_3b067 11 = .ok (.aload_n 0, 1) := by decide +kernel
theorem dJ2_getChar_3b067_12 : decode cJ2_getChar_3b067 12 = .ok (.invokestatic 48, 3) := by decide +kernel
theorem dJ2_getChar_3b067_15 : decode cJ2_getChar_3b067 15 = .ok (.if_icmp .lt 13, 3) := by decide +kernel
theorem dJ2_getChar_3b067_18 : decode cJ2_getChar_3b067 18 = .ok (.new 52, 3) := by decide +kernel
theorem dJ2_getChar_3b067_21 : decode cJ2_getChar_3b067 21 = .ok (.dup, 1) := by decide +kernel
