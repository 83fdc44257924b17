theorem dX10_init_8 : decode cX10_init 8 = .ok (.newarray .byte, 2) := by decide +kernel
theorem dX10_init_10 : decode cX10_init 10 = .ok (.putfield 9, 3) := by decide +kernel
theorem dX10_init_13 : decode cX10_init 13 = .ok (.aload_n 0, 1) := by decide +kernel
theorem dX10_init_14 : decode cX10_init 14 = .ok (.iconst 0, 1) := by decide +kernel
theorem dX10_init_15 : decode cX10_init 15 = .ok (.putfield 13, 3) := by decide +kernel
theorem dX10_init_18 : decode cX10_init 18 = .ok (.aload_n 0, 1) := by decide +kernel
theorem dX10_init_19 : decode cX10_init 19 = .ok (.iconst (-1), 1) := by decide +kernel
theorem dX10_init_20 : decode cX10_init 20 = .ok (.putfield 17, 3) := by decide +kernel
theorem dX10_init_23 : decode cX10_init 23 = .ok (.aload_n 0, 1) := by decide +kernel
theorem dX10_init_24 : decode cX10_init 24 = .ok (.new 20, 3) := by decide +kernel
theorem dX10_init_27 : decode cX10_init 27 = .ok (.dup, 1) := by decide +kernel
theorem dX10_init_28 : decode cX10_init 28 = .ok (.invokespecial 22, 3) := by decide +kernel
theorem dX10_init_31 : decode cX10_init 31 = .ok (.putfield 23, 3) := by decide +kernel
theorem dX10_init_34 : decode cX10_init 34 = .ok (.aload_n 0, 1) := by decide +kernel
theorem dX10_init_35 : decode cX10_init 35 = .ok (.new 27, 3) := by decide +kernel
theorem dX10_init_38 : decode cX10_init 38 = .ok (.dup, 1) := by decide +kernel
theorem dX10_init_39 : decode cX10_init 39 = .ok (.invokespecial 29, 3) := by decide +kernel
theorem dX10_init_42 : decode cX10_init 42 = .ok (.putfield 30, 3) := by decide +kernel
theorem dX10_init_45 : decode cX10_init 45 = .ok (.aload_n 0, 1) := by decide +kernel
theorem dX10_init_46 : decode cX10_init 46 = .ok (.new 34, 3) := by decide +kernel
theorem dX10_init_49 : decode cX10_init 49 = .ok (.dup, 1) := by decide +kernel
theorem dX10_init_50 : decode cX10_init 50 = .ok (.invokespecial 36, 3) := by decide +kernel
theorem dX10_init_53 : decode cX10_init 53 = .ok (.putfield 37, 3) := by decide +kernel
theorem dX10_init_56 : decode cX10_init 56 = .ok (.aload_n 0, 1) := by decide +kernel
theorem dX10_init_57 : decode cX10_init 57 = .ok (.new 41, 3) := by decide +kernel
theorem dX10_init_60 : decode cX10_init 60 = .ok (.dup, 1) := by decide +kernel
theorem dX10_init_61 : decode cX10_init 61 = .ok (.invokespecial 43, 3) := by decide +kernel
theorem dX10_init_64 : decode cX10_init 64 = .ok (.putfield 44, 3) := by decide +kernel
theorem dX10_init_67 : decode cX10_init 67 = .ok (.aload_n 0, 1) := by decide +kernel
theorem dX10_init_68 : decode cX10_init 68 = .ok (.new 48, 3) := by decide +kernel
theorem dX10_init_71 : decode cX10_init 71 = .ok (.dup, 1) := by decide +kernel
theorem dX10_init_72 : decode cX10_init 72 = .ok (.invokespecial 50, 3) := by decide +kernel
theorem dX10_init_75 : decode cX10_init 75 = .ok (.putfield 51, 3) := by decide +kernel
theorem dX10_init_78 : decode cX10_init 78 = .ok (.aload_n 0, 1) := by decide +kernel
theorem dX10_init_79 : decode cX10_init 79 = .ok (.new 55, 3) := by decide +kernel
theorem dX10_init_82 : decode cX10_init 82 = .ok (.dup, 1) := by decide +kernel
theorem dX10_init_83 : decode cX10_init 83 = .ok (.invokespecial 57, 3) := by decide +kernel
theorem dX10_init_86 : decode cX10_init 86 = .ok (.putfield 58, 3) := by decide +kernel
theorem dX10_init_89 : decode cX10_init 89 = .ok (.aload_n 0, 1) := by decide +kernel
theorem dX10_init_90 : decode cX10_init 90 = .ok (.new 62, 3) := by decide +kernel
theorem dX10_init_93 : decode cX10_init 93 = .ok (.dup, 1) := by decide +kernel
theorem dX10_init_94 : decode cX10_init 94 = .ok (.iconst 0, 1) := by decide +kernel
theorem dX10_init_95 : decode cX10_init 95 = .ok (.iconst 0, 1) := by decide +kernel
theorem dX10_init_96 : decode cX10_init 96 = .ok (.iconst 0, 1) := by decide +kernel
theorem dX10_init_97 : decode cX10_init 97 = .ok (.anewarray 64, 3) := by decide +kernel
theorem dX10_init_100 : decode cX10_init 100 = .ok (.new 66, 3) := by decide +kernel
theorem dX10_init_103 : decode cX10_init 103 = .ok (.dup, 1) := by decide +kernel
theorem dX10_init_104 : decode cX10_init 104 = .ok (.iconst 0, 1) := by decide +kernel
theorem dX10_init_105 : decode cX10_init 105 = .ok (.newarray .int, 2) := by decide +kernel
theorem dX10_init_107 : decode cX10_init 107 = .ok (.invokespecial 68, 3) := by decide +kernel
theorem dX10_init_110 : decode cX10_init 110 = .ok (.invokespecial 71, 3) := by decide +kernel
theorem dX10_init_113 : decode cX10_init 113 = .ok (.putfield 74, 3) := by decide +kernel
theorem dX10_init_116 : decode cX10_init 116 = .ok (.return_, 1) := by decide +kernel
set_option maxRecDepth 20000 in
theorem ggX10_append_X10_putWord : GoodIn wsX10_append wsX10_putWord := goodIn_r _ [6, 1, 7, 8, 9, 10, 11, 12, 13, 14, 15, 16, 17] (by decide +kernel) (by decide +kernel)
set_option maxRecDepth 20000 in
theorem gX10_append_X10_putWord : GoodIn wsX10_append (wsV RX10 78 RX10 yX10_putWord wsX10_putWord) := goodIn_app (goodIn_of _ (by decide +kernel)) ggX10_append_X10_putWord
theorem dX10_append_0 : decode cX10_append 0 = .ok (.aload_n 0, 1) := by decide +kernel
theorem dX10_append_1 : decode cX10_append 1 = .ok (.getfield 13, 3) := by decide +kernel
theorem dX10_append_4 : decode cX10_append 4 = .ok (.sipush 580, 3) := by decide +kernel
theorem dX10_append_7 : decode cX10_append 7 = .ok (.if_icmp .le 5, 3) := by decide +kernel
theorem dX10_append_10 : decode cX10_append 10 = .ok (.iconst (-1), 1) := by decide +kernel
theorem dX10_append_11 : decode cX10_append 11 = .ok (.ireturn, 1) := by decide +kernel
theorem dX10_append_12 : decode cX10_append 12 = .ok (.aload_n 0, 1) := by decide +kernel
theorem dX10_append_13 : decode cX10_append 13 = .ok (.iload_n 1, 1) := by decide +kernel
theorem dX10_append_14 : decode cX10_append 14 = .ok (.invokevirtual 78, 3) := by decide +kernel
theorem dX10_append_17 : decode cX10_append 17 = .ok (.aload_n 0, 1) := by decide +kernel
theorem dX10_append_18 : decode cX10_append 18 = .ok (.iload_n 2, 1) := by decide +kernel
theorem dX10_append_19 : decode cX10_append 19 = .ok (.invokevirtual 78, 3) := by decide +kernel
theorem dX10_append_22 : decode cX10_append 22 = .ok (.aload_n 0, 1) := by decide +kernel
theorem dX10_append_23 : decode cX10_append 23 = .ok (.iload_n 3, 1) := by decide +kernel
theorem dX10_append_24 : decode cX10_append 24 = .ok (.invokevirtual 78, 3) := by decide +kernel
theorem dX10_append_27 : decode cX10_append 27 = .ok (.aload_n 0, 1) := by decide +kernel
theorem dX10_append_28 : decode cX10_append 28 = .ok (.iload 4, 2) := by decide +kernel
theorem dX10_append_30 : decode cX10_append 30 = .ok (.invokevirtual 78, 3) := by decide +kernel
theorem dX10_append_33 : decode cX10_append 33 = .ok (.aload_n 0, 1) := by decide +kernel
theorem dX10_append_34 : decode cX10_append 34 = .ok (.iload 5, 2) := by decide +kernel
theorem dX10_append_36 : decode cX10_append 36 = .ok (.invokevirtual 78, 3) := by decide +kernel
theorem dX10_append_39 : decode cX10_append 39 = .ok (.aload_n 0, 1) := by decide +kernel
theorem dX10_append_40 : decode cX10_append 40 = .ok (.getfield 13, 3) := by decide +kernel
theorem dX10_append_43 : decode cX10_append 43 = .ok (.ireturn, 1) := by decide +kernel
theorem dX10_putWord_0 : decode cX10_putWord 0 = .ok (.bipush 24, 2) := by decide +kernel
theorem dX10_putWord_2 : decode cX10_putWord 2 = .ok (.istore_n 2, 1) := by decide +kernel
theorem dX10_putWord_3 : decode cX10_putWord 3 = .ok (.iload_n 2, 1) := by decide +kernel
theorem dX10_putWord_4 : decode cX10_putWord 4 = .ok (.ifCond .lt 44, 3) := by decide +kernel
theorem dX10_putWord_7 : decode cX10_putWord 7 = .ok (.aload_n 0, 1) := by decide +kernel
theorem dX10_putWord_8 : decode cX10_putWord 8 = .ok (.getfield 13, 3) := by decide +kernel
theorem dX10_putWord_11 : decode cX10_putWord 11 = .ok (.aload_n 0, 1) := by decide +kernel
theorem dX10_putWord_12 : decode cX10_putWord 12 = .ok (.getfield 9, 3) := by decide +kernel
theorem dX10_putWord_15 : decode cX10_putWord 15 = .ok (.arraylength, 1) := by decide +kernel
theorem dX10_putWord_16 : decode cX10_putWord 16 = .ok (.if_icmp .ge 32, 3) := by decide +kernel
theorem dX10_putWord_19 : decode cX10_putWord 19 = .ok (.aload_n 0, 1) := by decide +kernel
theorem dX10_putWord_20 : decode cX10_putWord 20 = .ok (.getfield 9, 3) := by decide +kernel
theorem dX10_putWord_23 : decode cX10_putWord 23 = .ok (.aload_n 0, 1) := by decide +kernel
theorem dX10_putWord_24 : decode cX10_putWord 24 = .ok (.getfield 13, 3) := by decide +kernel
theorem dX10_putWord_27 : decode cX10_putWord 27 = .ok (.iload_n 1, 1) := by decide +kernel
theorem dX10_putWord_28 : decode cX10_putWord 28 = .ok (.iload_n 2, 1) := by decide +kernel
theorem dX10_putWord_29 : decode cX10_putWord 29 = .ok (.iushr, 1) := by decide +kernel
theorem dX10_putWord_30 : decode cX10_putWord 30 = .ok (.i2b, 1) := by decide +kernel
theorem dX10_putWord_31 : decode cX10_putWord 31 = .ok (.bastore, 1) := by decide +kernel
theorem dX10_putWord_32 : decode cX10_putWord 32 = .ok (.aload_n 0, 1) := by decide +kernel
theorem dX10_putWord_33 : decode cX10_putWord 33 = .ok (.dup, 1) := by decide +kernel
theorem dX10_putWord_34 : decode cX10_putWord 34 = .ok (.getfield 13, 3) := by decide +kernel
theorem dX10_putWord_37 : decode cX10_putWord 37 = .ok (.iconst 1, 1) := by decide +kernel
theorem dX10_putWord_38 : decode cX10_putWord 38 = .ok (.iadd, 1) := by decide +kernel
theorem dX10_putWord_39 : decode cX10_putWord 39 = .ok (.putfield 13, 3) := by decide +kernel
theorem dX10_putWord_42 : decode cX10_putWord 42 = .ok (.iinc 2 (-8), 3) := by decide +kernel
theorem dX10_putWord_45 : decode cX10_putWord 45 = .ok (.goto (-42), 3) := by decide +kernel
theorem dX10_putWord_48 : decode cX10_putWord 48 = .ok (.return_, 1) := by decide +kernel
set_option maxRecDepth 20000 in
theorem ggX10_load_X7_read : GoodIn wsX10_load wsX7_read := goodIn_r _ [19, 20, 21, 22, 23, 24, 25, 26, 27, 28, 29, 30, 31, 32, 33, 34, 35, 36, 37, 38, 39, 40, 41, 42, 43, 44, 45, 46, 47, 48, 49, 50, 51, 52, 53, 54, 55, 56, 57, 58, 59, 60, 18, 61, 62, 63, 64, 65, 66, 67, 68, 69, 70, 71, 72, 73, 74, 75, 76, 77, 78, 79, 80, 81, 82, 83, 84, 85, 86, 87, 88, 89, 90, 91, 92, 93, 94, 95, 96, 97, 98, 99, 100, 101, 102, 103, 104, 105, 106, 107, 108, 109, 110, 111, 112, 113, 114, 115, 116, 117, 118, 119, 120, 121, 122, 123, 124, 125, 126, 127, 128, 129, 130, 131, 132, 133, 134, 135, 136, 137, 138, 139, 140, 141, 142, 143, 144, 145, 146, 147, 148, 149, 150, 151, 152, 153, 154, 155, 156, 157, 158, 159, 160, 161, 162, 163, 164, 165, 166, 167, 168, 169, 170, 171, 172, 173, 174, 175, 176, 177, 178, 179, 180, 181, 182, 183, 184, 185, 186, 187, 188, 189, 190, 191, 192, 193, 194, 195, 196, 197, 198, 199, 200, 201, 202, 203, 204, 205, 206, 207, 208, 347, 348, 349, 350, 351, 352, 353, 354, 355, 356, 361, 362, 363, 364, 365, 366, 367, 368, 369, 370, 371, 372, 373, 374] (by decide +kernel) (by decide +kernel)
set_option maxRecDepth 20000 in
theorem gX10_load_X7_read : GoodIn wsX10_load (wsV RX10 89 RX7 yX7_read wsX7_read) := goodIn_app (goodIn_of _ (by decide +kernel)) ggX10_load_X7_read
set_option maxRecDepth 20000 in
theorem ggX10_load_X2_remember : GoodIn wsX10_load wsX2_remember := goodIn_r _ [213, 214, 215, 216, 217, 218, 45, 46, 47, 219, 220, 221, 30, 222, 32, 223, 224, 225, 226, 33, 375, 376, 377, 378, 367, 368] (by decide +kernel) (by decide +kernel)
set_option maxRecDepth 20000 in
theorem gX10_load_X2_remember : GoodIn wsX10_load (wsV RX10 97 RX2 yX2_remember wsX2_remember) := goodIn_app (goodIn_of _ (by decide +kernel)) ggX10_load_X2_remember
set_option maxRecDepth 20000 in
theorem ggX10_load_X7_makeSetup : GoodIn wsX10_load wsX7_makeSetup := goodIn_r _ [230, 23, 144, 167, 231, 232, 233, 62, 63, 234, 235, 236, 199, 24, 237, 238, 36, 239, 240, 241, 242, 243, 244, 245, 246, 247, 45, 46, 47, 248, 224, 225, 226, 249, 250, 251, 252, 155, 156, 253, 254, 255, 256, 257, 258, 259, 260, 261, 262, 347, 348, 349, 350, 351, 352, 353, 354, 355, 356, 357, 358, 359, 360, 379, 380] (by decide +kernel) (by decide +kernel)
set_option maxRecDepth 20000 in
theorem gX10_load_X7_makeSetup : GoodIn wsX10_load (wsV RX10 101 RX7 yX7_makeSetup wsX7_makeSetup) := goodIn_app (goodIn_of _ (by decide +kernel)) ggX10_load_X7_makeSetup
set_option maxRecDepth 20000 in
theorem ggX10_load_X0_copyFrom : GoodIn wsX10_load wsX0_copyFrom := goodIn_r _ [222, 32, 223, 224, 225, 226, 33, 367, 368] (by decide +kernel) (by decide +kernel)
set_option maxRecDepth 20000 in
theorem gX10_load_X0_copyFrom : GoodIn wsX10_load (wsV RX10 106 RX0 yX0_copyFrom wsX0_copyFrom) := goodIn_app (goodIn_of _ (by decide +kernel)) ggX10_load_X0_copyFrom
set_option maxRecDepth 20000 in
theorem ggX10_load_X8_prepare : GoodIn wsX10_load wsX8_prepare := goodIn_r _ [268, 269, 270, 271, 272, 273, 274, 275, 36, 276, 277, 278, 279, 146, 280, 157, 281, 282, 283, 284, 285, 286, 287, 267, 288, 289, 290, 291, 292, 293, 294, 160, 158, 159, 161, 295, 296, 46, 297, 298, 299, 300, 301, 162, 302, 303, 304, 305, 306, 307, 308, 309, 310, 311, 236, 312, 254, 253, 313, 314, 315, 316, 317, 318, 319, 320, 321, 322, 323, 324, 325, 326, 327, 328, 329, 330, 331, 332, 333, 334, 335, 336, 381, 382, 383, 384, 385, 386, 387, 388, 357, 358, 359, 360, 369, 370, 371, 372, 373, 374, 379, 380] (by decide +kernel) (by decide +kernel)
set_option maxRecDepth 20000 in
theorem gX10_load_X8_prepare : GoodIn wsX10_load (wsV RX10 110 RX8 yX8_prepare wsX8_prepare) := goodIn_app (goodIn_of _ (by decide +kernel)) ggX10_load_X8_prepare
theorem dX10_load_0 : decode cX10_load 0 = .ok (.iload_n 1, 1) := by decide +kernel
theorem dX10_load_1 : decode cX10_load 1 = .ok (.ifCond .lt 11, 3) := by decide +kernel
theorem dX10_load_4 : decode cX10_load 4 = .ok (.iload_n 1, 1) := by decide +kernel
theorem dX10_load_5 : decode cX10_load 5 = .ok (.aload_n 0, 1) := by decide +kernel
theorem dX10_load_6 : decode cX10_load 6 = .ok (.getfield 13, 3) := by decide +kernel
theorem dX10_load_9 : decode cX10_load 9 = .ok (.if_icmp .le 13, 3) := by decide +kernel
theorem dX10_load_12 : decode cX10_load 12 = .ok (.new 82, 3) := by decide +kernel
theorem dX10_load_15 : decode cX10_load 15 = .ok (.dup, 1) := by decide +kernel
theorem dX10_load_16 : decode cX10_load 16 = .ok (.ldc 84, 2) := by decide +kernel
theorem dX10_load_18 : decode cX10_load 18 = .ok (.invokespecial 86, 3) := by decide +kernel
theorem dX10_load_21 : decode cX10_load 21 = .ok (.athrow, 1) := by decide +kernel
theorem dX10_load_22 : decode cX10_load 22 = .ok (.aload_n 0, 1) := by decide +kernel
theorem dX10_load_23 : decode cX10_load 23 = .ok (.iconst 0, 1) := by decide +kernel
theorem dX10_load_24 : decode cX10_load 24 = .ok (.putfield 13, 3) := by decide +kernel
theorem dX10_load_27 : decode cX10_load 27 = .ok (.aload_n 0, 1) := by decide +kernel
theorem dX10_load_28 : decode cX10_load 28 = .ok (.getfield 23, 3) := by decide +kernel
theorem dX10_load_31 : decode cX10_load 31 = .ok (.aload_n 0, 1) := by decide +kernel
theorem dX10_load_32 : decode cX10_load 32 = .ok (.getfield 9, 3) := by decide +kernel
theorem dX10_load_35 : decode cX10_load 35 = .ok (.iload_n 1, 1) := by decide +kernel
theorem dX10_load_36 : decode cX10_load 36 = .ok (.invokevirtual 89, 3) := by decide +kernel
theorem dX10_load_39 : decode cX10_load 39 = .ok (.istore_n 2, 1) := by decide +kernel
theorem dX10_load_40 : decode cX10_load 40 = .ok (.aload_n 0, 1) := by decide +kernel
theorem dX10_load_41 : decode cX10_load 41 = .ok (.aload_n 0, 1) := by decide +kernel
theorem dX10_load_42 : decode cX10_load 42 = .ok (.getfield 23, 3) := by decide +kernel
theorem dX10_load_45 : decode cX10_load 45 = .ok (.getfield 93, 3) := by decide +kernel
theorem dX10_load_48 : decode cX10_load 48 = .ok (.putfield 17, 3) := by decide +kernel
theorem dX10_load_51 : decode cX10_load 51 = .ok (.iload_n 2, 1) := by decide +kernel
theorem dX10_load_52 : decode cX10_load 52 = .ok (.ifCond .ne 11, 3) := by decide +kernel
theorem dX10_load_55 : decode cX10_load 55 = .ok (.aload_n 0, 1) := by decide +kernel
theorem dX10_load_56 : decode cX10_load 56 = .ok (.getfield 23, 3) := by decide +kernel
theorem dX10_load_59 : decode cX10_load 59 = .ok (.getfield 94, 3) := by decide +kernel
theorem dX10_load_62 : decode cX10_load 62 = .ok (.ireturn, 1) := by decide +kernel
theorem dX10_load_63 : decode cX10_load 63 = .ok (.aload_n 0, 1) := by decide +kernel
theorem dX10_load_64 : decode cX10_load 64 = .ok (.getfield 58, 3) := by decide +kernel
theorem dX10_load_67 : decode cX10_load 67 = .ok (.aload_n 0, 1) := by decide +kernel
theorem dX10_load_68 : decode cX10_load 68 = .ok (.getfield 74, 3) := by decide +kernel
theorem dX10_load_71 : decode cX10_load 71 = .ok (.aload_n 0, 1) := by decide +kernel
theorem dX10_load_72 : decode cX10_load 72 = .ok (.getfield 37, 3) := by decide +kernel
theorem dX10_load_75 : decode cX10_load 75 = .ok (.invokevirtual 97, 3) := by decide +kernel
theorem dX10_load_78 : decode cX10_load 78 = .ok (.aload_n 0, 1) := by decide +kernel
theorem dX10_load_79 : decode cX10_load 79 = .ok (.aload_n 0, 1) := by decide +kernel
theorem dX10_load_80 : decode cX10_load 80 = .ok (.getfield 23, 3) := by decide +kernel
theorem dX10_load_83 : decode cX10_load 83 = .ok (.invokevirtual 101, 3) := by decide +kernel
theorem dX10_load_86 : decode cX10_load 86 = .ok (.putfield 74, 3) := by decide +kernel
theorem dX10_load_89 : decode cX10_load 89 = .ok (.aload_n 0, 1) := by decide +kernel
theorem dX10_load_90 : decode cX10_load 90 = .ok (.getfield 37, 3) := by decide +kernel
theorem dX10_load_93 : decode cX10_load 93 = .ok (.aload_n 0, 1) := by decide +kernel
theorem dX10_load_94 : decode cX10_load 94 = .ok (.getfield 23, 3) := by decide +kernel
theorem dX10_load_97 : decode cX10_load 97 = .ok (.getfield 105, 3) := by decide +kernel
theorem dX10_load_100 : decode cX10_load 100 = .ok (.invokevirtual 106, 3) := by decide +kernel
theorem dX10_load_103 : decode cX10_load 103 = .ok (.aload_n 0, 1) := by decide +kernel
theorem dX10_load_104 : decode cX10_load 104 = .ok (.getfield 30, 3) := by decide +kernel
theorem dX10_load_107 : decode cX10_load 107 = .ok (.aload_n 0, 1) := by decide +kernel
theorem dX10_load_108 : decode cX10_load 108 = .ok (.getfield 74, 3) := by decide +kernel
theorem dX10_load_111 : decode cX10_load 111 = .ok (.invokevirtual 110, 3) := by decide +kernel
theorem dX10_load_114 : decode cX10_load 114 = .ok (.aload_n 0, 1) := by decide +kernel
theorem dX10_load_115 : decode cX10_load 115 = .ok (.getfield 74, 3) := by decide +kernel
theorem dX10_load_118 : decode cX10_load 118 = .ok (.getfield 114, 3) := by decide +kernel
theorem dX10_load_121 : decode cX10_load 121 = .ok (.arraylength, 1) := by decide +kernel
theorem dX10_load_122 : decode cX10_load 122 = .ok (.ireturn, 1) := by decide +kernel
theorem dX10_errorOffset_0 : decode cX10_errorOffset 0 = .ok (.aload_n 0, 1) := by decide +kernel
theorem dX10_errorOffset_1 : decode cX10_errorOffset 1 = .ok (.getfield 17, 3) := by decide +kernel
theorem dX10_errorOffset_4 : decode cX10_errorOffset 4 = .ok (.ireturn, 1) := by decide +kernel
theorem dX10_numberCount_0 : decode cX10_numberCount 0 = .ok (.aload_n 0, 1) := by decide +kernel
theorem dX10_numberCount_1 : decode cX10_numberCount 1 = .ok (.getfield 74, 3) := by decide +kernel
theorem dX10_numberCount_4 : decode cX10_numberCount 4 = .ok (.getfield 118, 3) := by decide +kernel
theorem dX10_numberCount_7 : decode cX10_numberCount 7 = .ok (.ireturn, 1) := by decide +kernel
theorem dX10_colourCount_0 : decode cX10_colourCount 0 = .ok (.aload_n 0, 1) := by decide +kernel
theorem dX10_colourCount_1 : decode cX10_colourCount 1 = .ok (.getfield 74, 3) := by decide +kernel
theorem dX10_colourCount_4 : decode cX10_colourCount 4 = .ok (.getfield 121, 3) := by decide +kernel
theorem dX10_colourCount_7 : decode cX10_colourCount 7 = .ok (.ireturn, 1) := by decide +kernel
theorem dX10_ruleCount_0 : decode cX10_ruleCount 0 = .ok (.aload_n 0, 1) := by decide +kernel
theorem dX10_ruleCount_1 : decode cX10_ruleCount 1 = .ok (.getfield 74, 3) := by decide +kernel
theorem dX10_ruleCount_4 : decode cX10_ruleCount 4 = .ok (.getfield 114, 3) := by decide +kernel
theorem dX10_ruleCount_7 : decode cX10_ruleCount 7 = .ok (.arraylength, 1) := by decide +kernel
theorem dX10_ruleCount_8 : decode cX10_ruleCount 8 = .ok (.ireturn, 1) := by decide +kernel
set_option maxRecDepth 20000 in
theorem ggX10_solutions_X8_sizeOf : GoodIn wsX10_solutions wsX8_sizeOf := goodIn_r _ [10, 11, 26, 27, 28, 29, 30, 31, 32, 33] (by decide +kernel) (by decide +kernel)
set_option maxRecDepth 20000 in
theorem gX10_solutions_X8_sizeOf : GoodIn wsX10_solutions (wsV RX10 129 RX8 yX8_sizeOf wsX8_sizeOf) := goodIn_app (goodIn_of _ (by decide +kernel)) ggX10_solutions_X8_sizeOf
theorem dX10_solutions_0 : decode cX10_solutions 0 = .ok (.iload_n 1, 1) := by decide +kernel
theorem dX10_solutions_1 : decode cX10_solutions 1 = .ok (.ifCond .lt 15, 3) := by decide +kernel
theorem dX10_solutions_4 : decode cX10_solutions 4 = .ok (.iload_n 1, 1) := by decide +kernel
theorem dX10_solutions_5 : decode cX10_solutions 5 = .ok (.aload_n 0, 1) := by decide +kernel
theorem dX10_solutions_6 : decode cX10_solutions 6 = .ok (.getfield 74, 3) := by decide +kernel
theorem dX10_solutions_9 : decode cX10_solutions 9 = .ok (.getfield 114, 3) := by decide +kernel
theorem dX10_solutions_12 : decode cX10_solutions 12 = .ok (.arraylength, 1) := by decide +kernel
theorem dX10_solutions_13 : decode cX10_solutions 13 = .ok (.if_icmp .lt 13, 3) := by decide +kernel
theorem dX10_solutions_16 : decode cX10_solutions 16 = .ok (.new 124, 3) := by decide +kernel
theorem dX10_solutions_19 : decode cX10_solutions 19 = .ok (.dup, 1) := by decide +kernel
theorem dX10_solutions_20 : decode cX10_solutions 20 = .ok (.ldc 126, 2) := by decide +kernel
theorem dX10_solutions_22 : decode cX10_solutions 22 = .ok (.invokespecial 128, 3) := by decide +kernel
theorem dX10_solutions_25 : decode cX10_solutions 25 = .ok (.athrow, 1) := by decide +kernel
theorem dX10_solutions_26 : decode cX10_solutions 26 = .ok (.aload_n 0, 1) := by decide +kernel
theorem dX10_solutions_27 : decode cX10_solutions 27 = .ok (.getfield 30, 3) := by decide +kernel
theorem dX10_solutions_30 : decode cX10_solutions 30 = .ok (.iload_n 1, 1) := by decide +kernel
theorem dX10_solutions_31 : decode cX10_solutions 31 = .ok (.invokevirtual 129, 3) := by decide +kernel
theorem dX10_solutions_34 : decode cX10_solutions 34 = .ok (.ireturn, 1) := by decide +kernel
set_option maxRecDepth 20000 in
theorem ggX10_colour_X10_requireNumber : GoodIn wsX10_colour wsX10_requireNumber := goodIn_ca (goodIn_r _ [6, 7, 8, 9, 10, 17, 18, 19, 20, 21, 22, 23, 24, 25, 26, 27, 28, 29, 30] (by decide +kernel) (by decide +kernel)) (goodIn_sub (fun _ h => List.mem_cons_of_mem _ (List.mem_append_right _ h)) (by decide +kernel))
set_option maxRecDepth 20000 in
theorem gX10_colour_X10_requireNumber : GoodIn wsX10_colour (wsV RX10 133 RX10 yX10_requireNumber wsX10_requireNumber) := goodIn_app (goodIn_of _ (by decide +kernel)) ggX10_colour_X10_requireNumber
set_option maxRecDepth 20000 in
theorem ggX10_colour_X0_colourOf : GoodIn wsX10_colour wsX0_colourOf := goodIn_r _ [15, 16, 31, 32] (by decide +kernel) (by decide +kernel)
set_option maxRecDepth 20000 in
theorem gX10_colour_X0_colourOf : GoodIn wsX10_colour (wsV RX10 136 RX0 yX0_colourOf wsX0_colourOf) := goodIn_app (goodIn_of _ (by decide +kernel)) ggX10_colour_X0_colourOf
theorem dX10_colour_0 : decode cX10_colour 0 = .ok (.aload_n 0, 1) := by decide +kernel
theorem dX10_colour_1 : decode cX10_colour 1 = .ok (.iload_n 1, 1) := by decide +kernel
theorem dX10_colour_2 : decode cX10_colour 2 = .ok (.invokevirtual 133, 3) := by decide +kernel
theorem dX10_colour_5 : decode cX10_colour 5 = .ok (.aload_n 0, 1) := by decide +kernel
theorem dX10_colour_6 : decode cX10_colour 6 = .ok (.getfield 37, 3) := by decide +kernel
theorem dX10_colour_9 : decode cX10_colour 9 = .ok (.iload_n 1, 1) := by decide +kernel
theorem dX10_colour_10 : decode cX10_colour 10 = .ok (.invokevirtual 136, 3) := by decide +kernel
theorem dX10_colour_13 : decode cX10_colour 13 = .ok (.ireturn, 1) := by decide +kernel
set_option maxRecDepth 20000 in
theorem ggX10_isFixed_X10_requireNumber : GoodIn wsX10_isFixed wsX10_requireNumber := goodIn_ca (goodIn_r _ [6, 7, 8, 9, 10, 17, 18, 19, 20, 21, 22, 23, 24, 25, 26, 27, 28, 29, 30] (by decide +kernel) (by decide +kernel)) (goodIn_sub (fun _ h => List.mem_cons_of_mem _ (List.mem_append_right _ h)) (by decide +kernel))
set_option maxRecDepth 20000 in
theorem gX10_isFixed_X10_requireNumber : GoodIn wsX10_isFixed (wsV RX10 133 RX10 yX10_requireNumber wsX10_requireNumber) := goodIn_app (goodIn_of _ (by decide +kernel)) ggX10_isFixed_X10_requireNumber
set_option maxRecDepth 20000 in
theorem ggX10_isFixed_X0_hasFixed : GoodIn wsX10_isFixed wsX0_hasFixed := goodIn_r _ [15, 16, 31, 32] (by decide +kernel) (by decide +kernel)
set_option maxRecDepth 20000 in
theorem gX10_isFixed_X0_hasFixed : GoodIn wsX10_isFixed (wsV RX10 139 RX0 yX0_hasFixed wsX0_hasFixed) := goodIn_app (goodIn_of _ (by decide +kernel)) ggX10_isFixed_X0_hasFixed
theorem dX10_isFixed_0 : decode cX10_isFixed 0 = .ok (.aload_n 0, 1) := by decide +kernel
theorem dX10_isFixed_1 : decode cX10_isFixed 1 = .ok (.iload_n 1, 1) := by decide +kernel
theorem dX10_isFixed_2 : decode cX10_isFixed 2 = .ok (.invokevirtual 133, 3) := by decide +kernel
theorem dX10_isFixed_5 : decode cX10_isFixed 5 = .ok (.aload_n 0, 1) := by decide +kernel
theorem dX10_isFixed_6 : decode cX10_isFixed 6 = .ok (.getfield 37, 3) := by decide +kernel
theorem dX10_isFixed_9 : decode cX10_isFixed 9 = .ok (.iload_n 1, 1) := by decide +kernel
theorem dX10_isFixed_10 : decode cX10_isFixed 10 = .ok (.invokevirtual 139, 3) := by decide +kernel
theorem dX10_isFixed_13 : decode cX10_isFixed 13 = .ok (.ireturn, 1) := by decide +kernel
set_option maxRecDepth 20000 in
theorem ggX10_count_X10_requireColourOrNone : GoodIn wsX10_count wsX10_requireColourOrNone := goodIn_ca (goodIn_r _ [5, 6, 7, 8, 4, 9, 10, 11, 12, 13, 33, 34, 35, 36, 37, 38, 39, 40, 41, 42, 43, 44, 45, 46] (by decide +kernel) (by decide +kernel)) (goodIn_sub (fun _ h => List.mem_cons_of_mem _ (List.mem_append_right _ h)) (by decide +kernel))
set_option maxRecDepth 20000 in
theorem gX10_count_X10_requireColourOrNone : GoodIn wsX10_count (wsV RX10 143 RX10 yX10_requireColourOrNone wsX10_requireColourOrNone) := goodIn_app (goodIn_of _ (by decide +kernel)) ggX10_count_X10_requireColourOrNone
set_option maxRecDepth 20000 in
theorem ggX10_count_X10_countPainted : GoodIn wsX10_count wsX10_countPainted := goodIn_r _ [17, 18, 12, 19, 13, 20, 21, 22, 23, 24, 25, 26, 27, 28, 29, 30, 31, 32, 33, 34, 35, 36, 37, 38, 39, 40, 41, 42, 43, 44, 45, 46, 47, 48] (by decide +kernel) (by decide +kernel)
set_option maxRecDepth 20000 in
theorem gX10_count_X10_countPainted : GoodIn wsX10_count (wsV RX10 146 RX10 yX10_countPainted wsX10_countPainted) := goodIn_app (goodIn_of _ (by decide +kernel)) ggX10_count_X10_countPainted
theorem dX10_count_0 : decode cX10_count 0 = .ok (.aload_n 0, 1) := by decide +kernel
theorem dX10_count_1 : decode cX10_count 1 = .ok (.iload_n 1, 1) := by decide +kernel
theorem dX10_count_2 : decode cX10_count 2 = .ok (.invokevirtual 143, 3) := by decide +kernel
theorem dX10_count_5 : decode cX10_count 5 = .ok (.aload_n 0, 1) := by decide +kernel
theorem dX10_count_6 : decode cX10_count 6 = .ok (.iload_n 1, 1) := by decide +kernel
theorem dX10_count_7 : decode cX10_count 7 = .ok (.invokevirtual 146, 3) := by decide +kernel
theorem dX10_count_10 : decode cX10_count 10 = .ok (.ireturn, 1) := by decide +kernel
set_option maxRecDepth 20000 in
theorem ggX10_countPainted_X0_numbersWith : GoodIn wsX10_countPainted wsX0_numbersWith := goodIn_r _ [9, 10, 32, 33] (by decide +kernel) (by decide +kernel)
set_option maxRecDepth 20000 in
theorem gX10_countPainted_X0_numbersWith : GoodIn wsX10_countPainted (wsV RX10 149 RX0 yX0_numbersWith wsX0_numbersWith) := goodIn_app (goodIn_of _ (by decide +kernel)) ggX10_countPainted_X0_numbersWith
set_option maxRecDepth 20000 in
theorem ggX10_countPainted_J13_bitCount_95d88 : GoodIn wsX10_countPainted wsJ13_bitCount_95d88 := goodIn_r _ [14, 15, 16, 17] (by decide +kernel) (by decide +kernel)
set_option maxRecDepth 20000 in
theorem gX10_countPainted_J13_bitCount_95d88 : GoodIn wsX10_countPainted (va_wsS RX10 153 yJ13_bitCount_95d88 wsJ13_bitCount_95d88) := goodIn_app (goodIn_of _ (by decide +kernel)) ggX10_countPainted_J13_bitCount_95d88
theorem dX10_countPainted_0 : decode cX10_countPainted 0 = .ok (.iload_n 1, 1) := by decide +kernel
theorem dX10_countPainted_1 : decode cX10_countPainted 1 = .ok (.iconst (-1), 1) := by decide +kernel
theorem dX10_countPainted_2 : decode cX10_countPainted 2 = .ok (.if_icmp .eq 15, 3) := by decide +kernel
theorem dX10_countPainted_5 : decode cX10_countPainted 5 = .ok (.aload_n 0, 1) := by decide +kernel
theorem dX10_countPainted_6 : decode cX10_countPainted 6 = .ok (.getfield 37, 3) := by decide +kernel
theorem dX10_countPainted_9 : decode cX10_countPainted 9 = .ok (.iload_n 1, 1) := by decide +kernel
theorem dX10_countPainted_10 : decode cX10_countPainted 10 = .ok (.invokevirtual 149, 3) := by decide +kernel
theorem dX10_countPainted_13 : decode cX10_countPainted 13 = .ok (.invokestatic 153, 3) := by decide +kernel
theorem dX10_countPainted_16 : decode cX10_countPainted 16 = .ok (.ireturn, 1) := by decide +kernel
theorem dX10_countPainted_17 : decode cX10_countPainted 17 = .ok (.aload_n 0, 1) := by decide +kernel
theorem dX10_countPainted_18 : decode cX10_countPainted 18 = .ok (.getfield 74, 3) := by decide +kernel
theorem dX10_countPainted_21 : decode cX10_countPainted 21 = .ok (.getfield 118, 3) := by decide +kernel
theorem dX10_countPainted_24 : decode cX10_countPainted 24 = .ok (.istore_n 2, 1) := by decide +kernel
theorem dX10_countPainted_25 : decode cX10_countPainted 25 = .ok (.iconst 0, 1) := by decide +kernel
theorem dX10_countPainted_26 : decode cX10_countPainted 26 = .ok (.istore_n 3, 1) := by decide +kernel
theorem dX10_countPainted_27 : decode cX10_countPainted 27 = .ok (.iload_n 3, 1) := by decide +kernel
theorem dX10_countPainted_28 : decode cX10_countPainted 28 = .ok (.aload_n 0, 1) := by decide +kernel
theorem dX10_countPainted_29 : decode cX10_countPainted 29 = .ok (.getfield 74, 3) := by decide +kernel
theorem dX10_countPainted_32 : decode cX10_countPainted 32 = .ok (.getfield 121, 3) := by decide +kernel
theorem dX10_countPainted_35 : decode cX10_countPainted 35 = .ok (.if_icmp .ge 23, 3) := by decide +kernel
theorem dX10_countPainted_38 : decode cX10_countPainted 38 = .ok (.iload_n 2, 1) := by decide +kernel
theorem dX10_countPainted_39 : decode cX10_countPainted 39 = .ok (.aload_n 0, 1) := by decide +kernel
theorem dX10_countPainted_40 : decode cX10_countPainted 40 = .ok (.getfield 37, 3) := by decide +kernel
theorem dX10_countPainted_43 : decode cX10_countPainted 43 = .ok (.iload_n 3, 1) := by decide +kernel
theorem dX10_countPainted_44 : decode cX10_countPainted 44 = .ok (.invokevirtual 149, 3) := by decide +kernel
theorem dX10_countPainted_47 : decode cX10_countPainted 47 = .ok (.invokestatic 153, 3) := by decide +kernel
theorem dX10_countPainted_50 : decode cX10_countPainted 50 = .ok (.isub, 1) := by decide +kernel
theorem dX10_countPainted_51 : decode cX10_countPainted 51 = .ok (.istore_n 2, 1) := by decide +kernel
theorem dX10_countPainted_52 : decode cX10_countPainted 52 = .ok (.iinc 3 1, 3) := by decide +kernel
theorem dX10_countPainted_55 : decode cX10_countPainted 55 = .ok (.goto (-28), 3) := by decide +kernel
theorem dX10_countPainted_58 : decode cX10_countPainted 58 = .ok (.iload_n 2, 1) := by decide +kernel
theorem dX10_countPainted_59 : decode cX10_countPainted 59 = .ok (.ireturn, 1) := by decide +kernel
set_option maxRecDepth 20000 in
theorem ggX10_conflicts_X8_countConflicts : GoodIn wsX10_conflicts wsX8_countConflicts := goodIn_r _ [7, 8, 9, 10, 11, 12, 13, 14, 15, 16, 17, 28, 29, 30, 31, 32, 33, 34, 35, 36, 37] (by decide +kernel) (by decide +kernel)
set_option maxRecDepth 20000 in
theorem gX10_conflicts_X8_countConflicts : GoodIn wsX10_conflicts (wsV RX10 159 RX8 yX8_countConflicts wsX8_countConflicts) := goodIn_app (goodIn_of _ (by decide +kernel)) ggX10_conflicts_X8_countConflicts
theorem dX10_conflicts_0 : decode cX10_conflicts 0 = .ok (.aload_n 0, 1) := by decide +kernel
theorem dX10_conflicts_1 : decode cX10_conflicts 1 = .ok (.getfield 30, 3) := by decide +kernel
theorem dX10_conflicts_4 : decode cX10_conflicts 4 = .ok (.aload_n 0, 1) := by decide +kernel
theorem dX10_conflicts_5 : decode cX10_conflicts 5 = .ok (.getfield 37, 3) := by decide +kernel
theorem dX10_conflicts_8 : decode cX10_conflicts 8 = .ok (.lconst 0, 1) := by decide +kernel
theorem dX10_conflicts_9 : decode cX10_conflicts 9 = .ok (.invokevirtual 159, 3) := by decide +kernel
theorem dX10_conflicts_12 : decode cX10_conflicts 12 = .ok (.ireturn, 1) := by decide +kernel
set_option maxRecDepth 20000 in
theorem ggX10_totalWeight_X8_weighConflicts : GoodIn wsX10_totalWeight wsX8_weighConflicts := goodIn_r _ [7, 8, 9, 10, 11, 12, 13, 14, 15, 16, 17, 18, 19, 6, 20, 21, 22, 33, 34, 35, 36, 37, 38, 39, 40, 41, 42] (by decide +kernel) (by decide +kernel)
set_option maxRecDepth 20000 in
theorem gX10_totalWeight_X8_weighConflicts : GoodIn wsX10_totalWeight (wsV RX10 163 RX8 yX8_weighConflicts wsX8_weighConflicts) := goodIn_app (goodIn_of _ (by decide +kernel)) ggX10_totalWeight_X8_weighConflicts
theorem dX10_totalWeight_0 : decode cX10_totalWeight 0 = .ok (.aload_n 0, 1) := by decide +kernel
theorem dX10_totalWeight_1 : decode cX10_totalWeight 1 = .ok (.getfield 30, 3) := by decide +kernel
theorem dX10_totalWeight_4 : decode cX10_totalWeight 4 = .ok (.aload_n 0, 1) := by decide +kernel
theorem dX10_totalWeight_5 : decode cX10_totalWeight 5 = .ok (.getfield 37, 3) := by decide +kernel
theorem dX10_totalWeight_8 : decode cX10_totalWeight 8 = .ok (.invokevirtual 163, 3) := by decide +kernel
theorem dX10_totalWeight_11 : decode cX10_totalWeight 11 = .ok (.ireturn, 1) := by decide +kernel
set_option maxRecDepth 20000 in
theorem ggX10_conflict_X8_findConflict : GoodIn wsX10_conflict wsX8_findConflict := goodIn_r _ [11, 12, 13, 14, 15, 16, 17, 18, 19, 20, 65, 66, 67, 68, 69, 70, 71, 72, 73, 74] (by decide +kernel) (by decide +kernel)
set_option maxRecDepth 20000 in
theorem gX10_conflict_X8_findConflict : GoodIn wsX10_conflict (wsV RX10 167 RX8 yX8_findConflict wsX8_findConflict) := goodIn_app (goodIn_of _ (by decide +kernel)) ggX10_conflict_X8_findConflict
set_option maxRecDepth 20000 in
theorem ggX10_conflict_X8_setOf : GoodIn wsX10_conflict wsX8_setOf := goodIn_r _ [24, 12, 13, 65, 66, 67, 68, 69, 70, 71, 72] (by decide +kernel) (by decide +kernel)
set_option maxRecDepth 20000 in
theorem gX10_conflict_X8_setOf : GoodIn wsX10_conflict (wsV RX10 178 RX8 yX8_setOf wsX8_setOf) := goodIn_app (goodIn_of _ (by decide +kernel)) ggX10_conflict_X8_setOf
set_option maxRecDepth 20000 in
theorem ggX10_conflict_X0_commonColour : GoodIn wsX10_conflict wsX0_commonColour := goodIn_r _ [18, 19, 20, 73, 74] (by decide +kernel) (by decide +kernel)
set_option maxRecDepth 20000 in
theorem gX10_conflict_X0_commonColour : GoodIn wsX10_conflict (wsV RX10 181 RX0 yX0_commonColour wsX0_commonColour) := goodIn_app (goodIn_of _ (by decide +kernel)) ggX10_conflict_X0_commonColour
set_option maxRecDepth 20000 in
theorem ggX10_conflict_X8_ruleOf : GoodIn wsX10_conflict wsX8_ruleOf := goodIn_r _ [29, 12, 30, 65, 66, 67, 68, 69, 70, 71, 72] (by decide +kernel) (by decide +kernel)
set_option maxRecDepth 20000 in
theorem gX10_conflict_X8_ruleOf : GoodIn wsX10_conflict (wsV RX10 184 RX8 yX8_ruleOf wsX8_ruleOf) := goodIn_app (goodIn_of _ (by decide +kernel)) ggX10_conflict_X8_ruleOf
set_option maxRecDepth 20000 in
theorem ggX10_conflict_X8_smallestOf : GoodIn wsX10_conflict wsX8_smallestOf := goodIn_r _ [34, 35, 22, 23, 10, 24, 12, 13, 36, 37, 38, 39, 40, 41, 42, 43, 44, 45, 65, 66, 67, 68, 69, 70, 71, 72] (by decide +kernel) (by decide +kernel)
set_option maxRecDepth 20000 in
theorem gX10_conflict_X8_smallestOf : GoodIn wsX10_conflict (wsV RX10 187 RX8 yX8_smallestOf wsX8_smallestOf) := goodIn_app (goodIn_of _ (by decide +kernel)) ggX10_conflict_X8_smallestOf
set_option maxRecDepth 20000 in
theorem ggX10_conflict_X8_greatestOf : GoodIn wsX10_conflict wsX8_greatestOf := goodIn_r _ [49, 12, 30, 65, 66, 67, 68, 69, 70, 71, 72] (by decide +kernel) (by decide +kernel)
set_option maxRecDepth 20000 in
theorem gX10_conflict_X8_greatestOf : GoodIn wsX10_conflict (wsV RX10 190 RX8 yX8_greatestOf wsX8_greatestOf) := goodIn_app (goodIn_of _ (by decide +kernel)) ggX10_conflict_X8_greatestOf
set_option maxRecDepth 20000 in
theorem ggX10_conflict_X8_weightOf : GoodIn wsX10_conflict wsX8_weightOf := goodIn_r _ [53, 12, 30, 54, 65, 66, 67, 68, 69, 70, 71, 72] (by decide +kernel) (by decide +kernel)
set_option maxRecDepth 20000 in
theorem gX10_conflict_X8_weightOf : GoodIn wsX10_conflict (wsV RX10 193 RX8 yX8_weightOf wsX8_weightOf) := goodIn_app (goodIn_of _ (by decide +kernel)) ggX10_conflict_X8_weightOf
theorem dX10_conflict_0 : decode cX10_conflict 0 = .ok (.aload_n 0, 1) := by decide +kernel
theorem dX10_conflict_1 : decode cX10_conflict 1 = .ok (.getfield 30, 3) := by decide +kernel
theorem dX10_conflict_4 : decode cX10_conflict 4 = .ok (.aload_n 0, 1) := by decide +kernel
theorem dX10_conflict_5 : decode cX10_conflict 5 = .ok (.getfield 37, 3) := by decide +kernel
theorem dX10_conflict_8 : decode cX10_conflict 8 = .ok (.iload_n 1, 1) := by decide +kernel
theorem dX10_conflict_9 : decode cX10_conflict 9 = .ok (.invokevirtual 167, 3) := by decide +kernel
theorem dX10_conflict_12 : decode cX10_conflict 12 = .ok (.istore_n 3, 1) := by decide +kernel
theorem dX10_conflict_13 : decode cX10_conflict 13 = .ok (.iload_n 3, 1) := by decide +kernel
theorem dX10_conflict_14 : decode cX10_conflict 14 = .ok (.iconst (-1), 1) := by decide +kernel
theorem dX10_conflict_15 : decode cX10_conflict 15 = .ok (.if_icmp .ne 13, 3) := by decide +kernel
theorem dX10_conflict_18 : decode cX10_conflict 18 = .ok (.new 171, 3) := by decide +kernel
theorem dX10_conflict_21 : decode cX10_conflict 21 = .ok (.dup, 1) := by decide +kernel
theorem dX10_conflict_22 : decode cX10_conflict 22 = .ok (.ldc 173, 2) := by decide +kernel
theorem dX10_conflict_24 : decode cX10_conflict 24 = .ok (.invokespecial 175, 3) := by decide +kernel
theorem dX10_conflict_27 : decode cX10_conflict 27 = .ok (.athrow, 1) := by decide +kernel
theorem dX10_conflict_28 : decode cX10_conflict 28 = .ok (.iload_n 2, 1) := by decide +kernel
theorem dX10_conflict_29 : decode cX10_conflict 29 = .ok (.ifCond .lt 8, 3) := by decide +kernel
theorem dX10_conflict_32 : decode cX10_conflict 32 = .ok (.iload_n 2, 1) := by decide +kernel
theorem dX10_conflict_33 : decode cX10_conflict 33 = .ok (.iconst 4, 1) := by decide +kernel
theorem dX10_conflict_34 : decode cX10_conflict 34 = .ok (.if_icmp .le 13, 3) := by decide +kernel
theorem dX10_conflict_37 : decode cX10_conflict 37 = .ok (.new 82, 3) := by decide +kernel
theorem dX10_conflict_40 : decode cX10_conflict 40 = .ok (.dup, 1) := by decide +kernel
theorem dX10_conflict_41 : decode cX10_conflict 41 = .ok (.ldc 176, 2) := by decide +kernel
theorem dX10_conflict_43 : decode cX10_conflict 43 = .ok (.invokespecial 86, 3) := by decide +kernel
theorem dX10_conflict_46 : decode cX10_conflict 46 = .ok (.athrow, 1) := by decide +kernel
theorem dX10_conflict_47 : decode cX10_conflict 47 = .ok (.aload_n 0, 1) := by decide +kernel
theorem dX10_conflict_48 : decode cX10_conflict 48 = .ok (.getfield 37, 3) := by decide +kernel
theorem dX10_conflict_51 : decode cX10_conflict 51 = .ok (.aload_n 0, 1) := by decide +kernel
theorem dX10_conflict_52 : decode cX10_conflict 52 = .ok (.getfield 30, 3) := by decide +kernel
theorem dX10_conflict_55 : decode cX10_conflict 55 = .ok (.iload_n 3, 1) := by decide +kernel
theorem dX10_conflict_56 : decode cX10_conflict 56 = .ok (.invokevirtual 178, 3) := by decide +kernel
theorem dX10_conflict_59 : decode cX10_conflict 59 = .ok (.invokevirtual 181, 3) := by decide +kernel
theorem dX10_conflict_62 : decode cX10_conflict 62 = .ok (.istore 4, 2) := by decide +kernel
theorem dX10_conflict_64 : decode cX10_conflict 64 = .ok (.iload_n 2, 1) := by decide +kernel
theorem dX10_conflict_65 : decode cX10_conflict 65 = .ok (.tableswitch 61 0 3 #[31, 40, 49, 58], 31) := by decide +kernel
theorem dX10_conflict_96 : decode cX10_conflict 96 = .ok (.aload_n 0, 1) := by decide +kernel
theorem dX10_conflict_97 : decode cX10_conflict 97 = .ok (.getfield 30, 3) := by decide +kernel
theorem dX10_conflict_100 : decode cX10_conflict 100 = .ok (.iload_n 3, 1) := by decide +kernel
theorem dX10_conflict_101 : decode cX10_conflict 101 = .ok (.invokevirtual 184, 3) := by decide +kernel
theorem dX10_conflict_104 : decode cX10_conflict 104 = .ok (.ireturn, 1) := by decide +kernel
theorem dX10_conflict_105 : decode cX10_conflict 105 = .ok (.aload_n 0, 1) := by decide +kernel
theorem dX10_conflict_106 : decode cX10_conflict 106 = .ok (.getfield 30, 3) := by decide +kernel
theorem dX10_conflict_109 : decode cX10_conflict 109 = .ok (.iload_n 3, 1) := by decide +kernel
theorem dX10_conflict_110 : decode cX10_conflict 110 = .ok (.invokevirtual 187, 3) := by decide +kernel
theorem dX10_conflict_113 : decode cX10_conflict 113 = .ok (.ireturn, 1) := by decide +kernel
theorem dX10_conflict_114 : decode cX10_conflict 114 = .ok (.aload_n 0, 1) := by decide +kernel
theorem dX10_conflict_115 : decode cX10_conflict 115 = .ok (.getfield 30, 3) := by decide +kernel
theorem dX10_conflict_118 : decode cX10_conflict 118 = .ok (.iload_n 3, 1) := by decide +kernel
theorem dX10_conflict_119 : decode cX10_conflict 119 = .ok (.invokevirtual 190, 3) := by decide +kernel
theorem dX10_conflict_122 : decode cX10_conflict 122 = .ok (.ireturn, 1) := by decide +kernel
theorem dX10_conflict_123 : decode cX10_conflict 123 = .ok (.iload 4, 2) := by decide +kernel
theorem dX10_conflict_125 : decode cX10_conflict 125 = .ok (.ireturn, 1) := by decide +kernel
theorem dX10_conflict_126 : decode cX10_conflict 126 = .ok (.aload_n 0, 1) := by decide +kernel
theorem dX10_conflict_127 : decode cX10_conflict 127 = .ok (.getfield 30, 3) := by decide +kernel
theorem dX10_conflict_130 : decode cX10_conflict 130 = .ok (.iload_n 3, 1) := by decide +kernel
theorem dX10_conflict_131 : decode cX10_conflict 131 = .ok (.iload 4, 2) := by decide +kernel
theorem dX10_conflict_133 : decode cX10_conflict 133 = .ok (.invokevirtual 193, 3) := by decide +kernel
theorem dX10_conflict_136 : decode cX10_conflict 136 = .ok (.ireturn, 1) := by decide +kernel
set_option maxRecDepth 20000 in
theorem ggX10_conflictsOf_X10_requireNumber : GoodIn wsX10_conflictsOf wsX10_requireNumber := goodIn_ca (goodIn_r _ [7, 8, 9, 10, 11, 27, 28, 29, 30, 31, 32, 33, 34, 35, 36, 37, 38, 39, 40] (by decide +kernel) (by decide +kernel)) (goodIn_sub (fun _ h => List.mem_cons_of_mem _ (List.mem_append_right _ h)) (by decide +kernel))
set_option maxRecDepth 20000 in
theorem gX10_conflictsOf_X10_requireNumber : GoodIn wsX10_conflictsOf (wsV RX10 133 RX10 yX10_requireNumber wsX10_requireNumber) := goodIn_app (goodIn_of _ (by decide +kernel)) ggX10_conflictsOf_X10_requireNumber
set_option maxRecDepth 20000 in
theorem ggX10_conflictsOf_X8_countConflicts : GoodIn wsX10_conflictsOf wsX8_countConflicts := goodIn_r _ [16, 17, 18, 19, 20, 21, 22, 23, 24, 25, 26, 41, 42, 43, 44, 45, 46, 47, 48, 49, 50] (by decide +kernel) (by decide +kernel)
set_option maxRecDepth 20000 in
theorem gX10_conflictsOf_X8_countConflicts : GoodIn wsX10_conflictsOf (wsV RX10 159 RX8 yX8_countConflicts wsX8_countConflicts) := goodIn_app (goodIn_of _ (by decide +kernel)) ggX10_conflictsOf_X8_countConflicts
theorem dX10_conflictsOf_0 : decode cX10_conflictsOf 0 = .ok (.aload_n 0, 1) := by decide +kernel
theorem dX10_conflictsOf_1 : decode cX10_conflictsOf 1 = .ok (.iload_n 1, 1) := by decide +kernel
theorem dX10_conflictsOf_2 : decode cX10_conflictsOf 2 = .ok (.invokevirtual 133, 3) := by decide +kernel
theorem dX10_conflictsOf_5 : decode cX10_conflictsOf 5 = .ok (.aload_n 0, 1) := by decide +kernel
theorem dX10_conflictsOf_6 : decode cX10_conflictsOf 6 = .ok (.getfield 30, 3) := by decide +kernel
theorem dX10_conflictsOf_9 : decode cX10_conflictsOf 9 = .ok (.aload_n 0, 1) := by decide +kernel
theorem dX10_conflictsOf_10 : decode cX10_conflictsOf 10 = .ok (.getfield 37, 3) := by decide +kernel
theorem dX10_conflictsOf_13 : decode cX10_conflictsOf 13 = .ok (.lconst 1, 1) := by decide +kernel
theorem dX10_conflictsOf_14 : decode cX10_conflictsOf 14 = .ok (.iload_n 1, 1) := by decide +kernel
theorem dX10_conflictsOf_15 : decode cX10_conflictsOf 15 = .ok (.lshl, 1) := by decide +kernel
theorem dX10_conflictsOf_16 : decode cX10_conflictsOf 16 = .ok (.invokevirtual 159, 3) := by decide +kernel
theorem dX10_conflictsOf_19 : decode cX10_conflictsOf 19 = .ok (.ireturn, 1) := by decide +kernel
set_option maxRecDepth 20000 in
theorem ggX10_allowed_X10_requireNumber : GoodIn wsX10_allowed wsX10_requireNumber := goodIn_ca (goodIn_r _ [9, 10, 11, 1, 12, 34, 35, 36, 37, 38, 39, 40, 41, 42, 43, 44, 45, 46, 47] (by decide +kernel) (by decide +kernel)) (goodIn_sub (fun _ h => List.mem_cons_of_mem _ (List.mem_append_right _ h)) (by decide +kernel))
set_option maxRecDepth 20000 in
theorem gX10_allowed_X10_requireNumber : GoodIn wsX10_allowed (wsV RX10 133 RX10 yX10_requireNumber wsX10_requireNumber) := goodIn_app (goodIn_of _ (by decide +kernel)) ggX10_allowed_X10_requireNumber
set_option maxRecDepth 20000 in
theorem ggX10_allowed_X0_numbersWith : GoodIn wsX10_allowed wsX0_numbersWith := goodIn_r _ [17, 18, 48, 49] (by decide +kernel) (by decide +kernel)
set_option maxRecDepth 20000 in
theorem gX10_allowed_X0_numbersWith : GoodIn wsX10_allowed (wsV RX10 149 RX0 yX0_numbersWith wsX0_numbersWith) := goodIn_app (goodIn_of _ (by decide +kernel)) ggX10_allowed_X0_numbersWith
set_option maxRecDepth 20000 in
theorem ggX10_allowed_X8_allows : GoodIn wsX10_allowed wsX8_allows := goodIn_r _ [23, 24, 25, 26, 27, 28, 29, 30, 31, 32, 33, 50, 51, 52, 53, 54, 55, 56, 57] (by decide +kernel) (by decide +kernel)
set_option maxRecDepth 20000 in
theorem gX10_allowed_X8_allows : GoodIn wsX10_allowed (wsV RX10 197 RX8 yX8_allows wsX8_allows) := goodIn_app (goodIn_of _ (by decide +kernel)) ggX10_allowed_X8_allows
theorem dX10_allowed_0 : decode cX10_allowed 0 = .ok (.aload_n 0, 1) := by decide +kernel
theorem dX10_allowed_1 : decode cX10_allowed 1 = .ok (.iload_n 1, 1) := by decide +kernel
theorem dX10_allowed_2 : decode cX10_allowed 2 = .ok (.invokevirtual 133, 3) := by decide +kernel
theorem dX10_allowed_5 : decode cX10_allowed 5 = .ok (.iconst 0, 1) := by decide +kernel
theorem dX10_allowed_6 : decode cX10_allowed 6 = .ok (.istore_n 2, 1) := by decide +kernel
theorem dX10_allowed_7 : decode cX10_allowed 7 = .ok (.iconst 0, 1) := by decide +kernel
theorem dX10_allowed_8 : decode cX10_allowed 8 = .ok (.istore_n 3, 1) := by decide +kernel
theorem dX10_allowed_9 : decode cX10_allowed 9 = .ok (.iload_n 3, 1) := by decide +kernel
theorem dX10_allowed_10 : decode cX10_allowed 10 = .ok (.aload_n 0, 1) := by decide +kernel
theorem dX10_allowed_11 : decode cX10_allowed 11 = .ok (.getfield 74, 3) := by decide +kernel
theorem dX10_allowed_14 : decode cX10_allowed 14 = .ok (.getfield 121, 3) := by decide +kernel
theorem dX10_allowed_17 : decode cX10_allowed 17 = .ok (.if_icmp .ge 34, 3) := by decide +kernel
theorem dX10_allowed_20 : decode cX10_allowed 20 = .ok (.aload_n 0, 1) := by decide +kernel
theorem dX10_allowed_21 : decode cX10_allowed 21 = .ok (.getfield 30, 3) := by decide +kernel
theorem dX10_allowed_24 : decode cX10_allowed 24 = .ok (.iload_n 1, 1) := by decide +kernel
theorem dX10_allowed_25 : decode cX10_allowed 25 = .ok (.aload_n 0, 1) := by decide +kernel
theorem dX10_allowed_26 : decode cX10_allowed 26 = .ok (.getfield 37, 3) := by decide +kernel
theorem dX10_allowed_29 : decode cX10_allowed 29 = .ok (.iload_n 3, 1) := by decide +kernel
theorem dX10_allowed_30 : decode cX10_allowed 30 = .ok (.invokevirtual 149, 3) := by decide +kernel
theorem dX10_allowed_33 : decode cX10_allowed 33 = .ok (.invokevirtual 197, 3) := by decide +kernel
theorem dX10_allowed_36 : decode cX10_allowed 36 = .ok (.ifCond .eq 9, 3) := by decide +kernel
theorem dX10_allowed_39 : decode cX10_allowed 39 = .ok (.iload_n 2, 1) := by decide +kernel
theorem dX10_allowed_40 : decode cX10_allowed 40 = .ok (.iconst 1, 1) := by decide +kernel
theorem dX10_allowed_41 : decode cX10_allowed 41 = .ok (.iload_n 3, 1) := by decide +kernel
theorem dX10_allowed_42 : decode cX10_allowed 42 = .ok (.ishl, 1) := by decide +kernel
theorem dX10_allowed_43 : decode cX10_allowed 43 = .ok (.ior, 1) := by decide +kernel
theorem dX10_allowed_44 : decode cX10_allowed 44 = .ok (.istore_n 2, 1) := by decide +kernel
theorem dX10_allowed_45 : decode cX10_allowed 45 = .ok (.iinc 3 1, 3) := by decide +kernel
theorem dX10_allowed_48 : decode cX10_allowed 48 = .ok (.goto (-39), 3) := by decide +kernel
theorem dX10_allowed_51 : decode cX10_allowed 51 = .ok (.iload_n 2, 1) := by decide +kernel
theorem dX10_allowed_52 : decode cX10_allowed 52 = .ok (.ireturn, 1) := by decide +kernel
set_option maxRecDepth 20000 in
theorem ggX10_canExtend_X10_requireNumber : GoodIn wsX10_canExtend wsX10_requireNumber := goodIn_ca (goodIn_r _ [10, 11, 12, 4, 13, 82, 83, 84, 85, 86, 87, 88, 89, 90, 91, 92, 93, 94, 95] (by decide +kernel) (by decide +kernel)) (goodIn_sub (fun _ h => List.mem_cons_of_mem _ (List.mem_append_left _ (List.mem_append_right _ h))) (by decide +kernel))
set_option maxRecDepth 20000 in
theorem gX10_canExtend_X10_requireNumber : GoodIn wsX10_canExtend (wsV RX10 133 RX10 yX10_requireNumber wsX10_requireNumber) := goodIn_app (goodIn_of _ (by decide +kernel)) ggX10_canExtend_X10_requireNumber
set_option maxRecDepth 20000 in
theorem ggX10_canExtend_X10_requireTrials : GoodIn wsX10_canExtend wsX10_requireTrials := goodIn_ca (goodIn_r _ [17, 18, 19] (by decide +kernel) (by decide +kernel)) (goodIn_sub (fun _ h => List.mem_cons_of_mem _ (List.mem_append_right _ h)) (by decide +kernel))
set_option maxRecDepth 20000 in
theorem gX10_canExtend_X10_requireTrials : GoodIn wsX10_canExtend (wsV RX10 201 RX10 yX10_requireTrials wsX10_requireTrials) := goodIn_app (goodIn_of _ (by decide +kernel)) ggX10_canExtend_X10_requireTrials
set_option maxRecDepth 20000 in
theorem ggX10_canExtend_X5_run : GoodIn wsX10_canExtend wsX5_run := goodIn_r _ [24, 25, 26, 27, 28, 29, 30, 31, 32, 33, 34, 35, 36, 37, 38, 39, 40, 41, 42, 43, 44, 45, 46, 47, 23, 48, 49, 50, 51, 52, 53, 54, 55, 56, 57, 58, 59, 60, 61, 62, 63, 64, 65, 66, 67, 68, 69, 70, 71, 72, 73, 74, 75, 76, 77, 78, 79, 80, 81, 96, 97, 98, 99, 100, 101, 102, 103, 104, 105, 106, 107, 108, 109, 110, 111] (by decide +kernel) (by decide +kernel)
set_option maxRecDepth 20000 in
theorem gX10_canExtend_X5_run : GoodIn wsX10_canExtend (wsV RX10 204 RX5 yX5_run wsX5_run) := goodIn_app (goodIn_of _ (by decide +kernel)) ggX10_canExtend_X5_run
theorem dX10_canExtend_0 : decode cX10_canExtend 0 = .ok (.aload_n 0, 1) := by decide +kernel
theorem dX10_canExtend_1 : decode cX10_canExtend 1 = .ok (.iload_n 1, 1) := by decide +kernel
theorem dX10_canExtend_2 : decode cX10_canExtend 2 = .ok (.invokevirtual 133, 3) := by decide +kernel
theorem dX10_canExtend_5 : decode cX10_canExtend 5 = .ok (.aload_n 0, 1) := by decide +kernel
theorem dX10_canExtend_6 : decode cX10_canExtend 6 = .ok (.iload_n 2, 1) := by decide +kernel
theorem dX10_canExtend_7 : decode cX10_canExtend 7 = .ok (.invokevirtual 201, 3) := by decide +kernel
theorem dX10_canExtend_10 : decode cX10_canExtend 10 = .ok (.aload_n 0, 1) := by decide +kernel
theorem dX10_canExtend_11 : decode cX10_canExtend 11 = .ok (.getfield 44, 3) := by decide +kernel
theorem dX10_canExtend_14 : decode cX10_canExtend 14 = .ok (.aload_n 0, 1) := by decide +kernel
theorem dX10_canExtend_15 : decode cX10_canExtend 15 = .ok (.getfield 30, 3) := by decide +kernel
theorem dX10_canExtend_18 : decode cX10_canExtend 18 = .ok (.aload_n 0, 1) := by decide +kernel
theorem dX10_canExtend_19 : decode cX10_canExtend 19 = .ok (.getfield 37, 3) := by decide +kernel
theorem dX10_canExtend_22 : decode cX10_canExtend 22 = .ok (.iload_n 1, 1) := by decide +kernel
theorem dX10_canExtend_23 : decode cX10_canExtend 23 = .ok (.aload_n 0, 1) := by decide +kernel
theorem dX10_canExtend_24 : decode cX10_canExtend 24 = .ok (.getfield 74, 3) := by decide +kernel
theorem dX10_canExtend_27 : decode cX10_canExtend 27 = .ok (.getfield 121, 3) := by decide +kernel
theorem dX10_canExtend_30 : decode cX10_canExtend 30 = .ok (.iload_n 2, 1) := by decide +kernel
theorem dX10_canExtend_31 : decode cX10_canExtend 31 = .ok (.invokevirtual 204, 3) := by decide +kernel
theorem dX10_canExtend_34 : decode cX10_canExtend 34 = .ok (.ireturn, 1) := by decide +kernel
set_option maxRecDepth 20000 in
theorem ggX10_longest_X10_requireTrials : GoodIn wsX10_longest wsX10_requireTrials := goodIn_ca (goodIn_r _ [10, 11, 12] (by decide +kernel) (by decide +kernel)) (goodIn_sub (fun _ h => List.mem_cons_of_mem _ (List.mem_append_right _ h)) (by decide +kernel))
set_option maxRecDepth 20000 in
theorem gX10_longest_X10_requireTrials : GoodIn wsX10_longest (wsV RX10 201 RX10 yX10_requireTrials wsX10_requireTrials) := goodIn_app (goodIn_of _ (by decide +kernel)) ggX10_longest_X10_requireTrials
set_option maxRecDepth 20000 in
theorem ggX10_longest_X5_reach : GoodIn wsX10_longest wsX5_reach := goodIn_r _ [17, 18, 19, 20, 21, 22, 16, 23, 24, 25, 26, 27, 28, 29, 30, 31, 32, 33, 34, 35, 36, 37, 38, 39, 40, 41, 42, 43, 44, 45, 46, 47, 48, 49, 50, 51, 52, 53, 54, 55, 56, 57, 58, 59, 60, 61, 62, 63, 64, 65, 66, 67, 68, 69, 70, 71, 72, 73, 74, 75, 76, 77, 78, 79, 94, 95, 96, 97, 98, 99, 100, 101, 102, 103, 104, 105, 106, 107, 108, 109] (by decide +kernel) (by decide +kernel)
set_option maxRecDepth 20000 in
theorem gX10_longest_X5_reach : GoodIn wsX10_longest (wsV RX10 208 RX5 yX5_reach wsX5_reach) := goodIn_app (goodIn_of _ (by decide +kernel)) ggX10_longest_X5_reach
theorem dX10_longest_0 : decode cX10_longest 0 = .ok (.aload_n 0, 1) := by decide +kernel
theorem dX10_longest_1 : decode cX10_longest 1 = .ok (.iload_n 1, 1) := by decide +kernel
theorem dX10_longest_2 : decode cX10_longest 2 = .ok (.invokevirtual 201, 3) := by decide +kernel
theorem dX10_longest_5 : decode cX10_longest 5 = .ok (.aload_n 0, 1) := by decide +kernel
theorem dX10_longest_6 : decode cX10_longest 6 = .ok (.getfield 44, 3) := by decide +kernel
theorem dX10_longest_9 : decode cX10_longest 9 = .ok (.aload_n 0, 1) := by decide +kernel
theorem dX10_longest_10 : decode cX10_longest 10 = .ok (.getfield 30, 3) := by decide +kernel
theorem dX10_longest_13 : decode cX10_longest 13 = .ok (.aload_n 0, 1) := by decide +kernel
theorem dX10_longest_14 : decode cX10_longest 14 = .ok (.getfield 74, 3) := by decide +kernel
theorem dX10_longest_17 : decode cX10_longest 17 = .ok (.getfield 118, 3) := by decide +kernel
theorem dX10_longest_20 : decode cX10_longest 20 = .ok (.aload_n 0, 1) := by decide +kernel
theorem dX10_longest_21 : decode cX10_longest 21 = .ok (.getfield 74, 3) := by decide +kernel
theorem dX10_longest_24 : decode cX10_longest 24 = .ok (.getfield 121, 3) := by decide +kernel
theorem dX10_longest_27 : decode cX10_longest 27 = .ok (.iload_n 1, 1) := by decide +kernel
theorem dX10_longest_28 : decode cX10_longest 28 = .ok (.invokevirtual 208, 3) := by decide +kernel
theorem dX10_longest_31 : decode cX10_longest 31 = .ok (.ireturn, 1) := by decide +kernel
set_option maxRecDepth 20000 in
theorem ggX10_bestGain_X3_find : GoodIn wsX10_bestGain wsX3_find := goodIn_r _ [10, 11, 12, 13, 14, 15, 16, 17, 18, 19, 9, 20, 21, 22, 23, 24, 25, 26, 27, 28, 29, 30, 31, 32, 33, 34, 35, 36, 37, 38, 39, 40, 41, 42, 43, 44, 45, 46, 47, 48, 49, 50, 51, 52, 53, 54, 55, 56, 57, 58, 59, 60, 61, 62, 63, 64, 65, 66, 67, 68, 69, 70, 71, 72, 73, 74, 75, 76, 87, 88, 89, 90, 91, 92, 93, 94, 95, 96, 97, 98, 99, 100, 101, 102, 103, 104] (by decide +kernel) (by decide +kernel)
set_option maxRecDepth 20000 in
theorem gX10_bestGain_X3_find : GoodIn wsX10_bestGain (wsV RX10 212 RX3 yX3_find wsX3_find) := goodIn_app (goodIn_of _ (by decide +kernel)) ggX10_bestGain_X3_find
theorem dX10_bestGain_0 : decode cX10_bestGain 0 = .ok (.aload_n 0, 1) := by decide +kernel
theorem dX10_bestGain_1 : decode cX10_bestGain 1 = .ok (.getfield 51, 3) := by decide +kernel
theorem dX10_bestGain_4 : decode cX10_bestGain 4 = .ok (.aload_n 0, 1) := by decide +kernel
theorem dX10_bestGain_5 : decode cX10_bestGain 5 = .ok (.getfield 74, 3) := by decide +kernel
theorem dX10_bestGain_8 : decode cX10_bestGain 8 = .ok (.aload_n 0, 1) := by decide +kernel
theorem dX10_bestGain_9 : decode cX10_bestGain 9 = .ok (.getfield 30, 3) := by decide +kernel
theorem dX10_bestGain_12 : decode cX10_bestGain 12 = .ok (.aload_n 0, 1) := by decide +kernel
theorem dX10_bestGain_13 : decode cX10_bestGain 13 = .ok (.getfield 37, 3) := by decide +kernel
theorem dX10_bestGain_16 : decode cX10_bestGain 16 = .ok (.invokevirtual 212, 3) := by decide +kernel
theorem dX10_bestGain_19 : decode cX10_bestGain 19 = .ok (.aload_n 0, 1) := by decide +kernel
theorem dX10_bestGain_20 : decode cX10_bestGain 20 = .ok (.getfield 51, 3) := by decide +kernel
theorem dX10_bestGain_23 : decode cX10_bestGain 23 = .ok (.getfield 216, 3) := by decide +kernel
theorem dX10_bestGain_26 : decode cX10_bestGain 26 = .ok (.ireturn, 1) := by decide +kernel
set_option maxRecDepth 20000 in
theorem ggX10_setColour_X10_requireNumber : GoodIn wsX10_setColour wsX10_requireNumber := goodIn_ca (goodIn_r _ [10, 11, 12, 5, 13, 60, 61, 62, 63, 64, 65, 66, 67, 68, 69, 70, 71, 72, 73] (by decide +kernel) (by decide +kernel)) (goodIn_sub (fun _ h => List.mem_cons_of_mem _ (List.mem_append_right _ h)) (by decide +kernel))
set_option maxRecDepth 20000 in
theorem gX10_setColour_X10_requireNumber : GoodIn wsX10_setColour (wsV RX10 133 RX10 yX10_requireNumber wsX10_requireNumber) := goodIn_app (goodIn_of _ (by decide +kernel)) ggX10_setColour_X10_requireNumber
set_option maxRecDepth 20000 in
theorem ggX10_setColour_X10_requireColourOrNone : GoodIn wsX10_setColour wsX10_requireColourOrNone := goodIn_ca (goodIn_r _ [17, 18, 19, 20, 9, 21, 11, 12, 5, 22, 60, 61, 62, 63, 64, 65, 66, 67, 68, 69, 70, 71, 72, 73] (by decide +kernel) (by decide +kernel)) (goodIn_sub (fun _ h => List.mem_cons_of_mem _ (List.mem_append_right _ h)) (by decide +kernel))
set_option maxRecDepth 20000 in
theorem gX10_setColour_X10_requireColourOrNone : GoodIn wsX10_setColour (wsV RX10 143 RX10 yX10_requireColourOrNone wsX10_requireColourOrNone) := goodIn_app (goodIn_of _ (by decide +kernel)) ggX10_setColour_X10_requireColourOrNone
set_option maxRecDepth 20000 in
theorem ggX10_setColour_X0_hasFixed : GoodIn wsX10_setColour wsX0_hasFixed := goodIn_r _ [27, 28, 74, 75] (by decide +kernel) (by decide +kernel)
set_option maxRecDepth 20000 in
theorem gX10_setColour_X0_hasFixed : GoodIn wsX10_setColour (wsV RX10 139 RX0 yX0_hasFixed wsX0_hasFixed) := goodIn_app (goodIn_of _ (by decide +kernel)) ggX10_setColour_X0_hasFixed
set_option maxRecDepth 20000 in
theorem ggX10_setColour_X2_remember : GoodIn wsX10_setColour wsX2_remember := goodIn_r _ [33, 34, 35, 36, 37, 38, 39, 40, 41, 42, 43, 44, 26, 45, 46, 47, 48, 49, 50, 28, 76, 77, 78, 79, 74, 75] (by decide +kernel) (by decide +kernel)
set_option maxRecDepth 20000 in
theorem gX10_setColour_X2_remember : GoodIn wsX10_setColour (wsV RX10 97 RX2 yX2_remember wsX2_remember) := goodIn_app (goodIn_of _ (by decide +kernel)) ggX10_setColour_X2_remember
set_option maxRecDepth 20000 in
theorem ggX10_setColour_X0_colourOf : GoodIn wsX10_setColour wsX0_colourOf := goodIn_r _ [54, 46, 74, 75] (by decide +kernel) (by decide +kernel)
set_option maxRecDepth 20000 in
theorem gX10_setColour_X0_colourOf : GoodIn wsX10_setColour (wsV RX10 136 RX0 yX0_colourOf wsX0_colourOf) := goodIn_app (goodIn_of _ (by decide +kernel)) ggX10_setColour_X0_colourOf
set_option maxRecDepth 20000 in
theorem ggX10_setColour_X0_paint : GoodIn wsX10_setColour wsX0_paint := goodIn_r _ [58, 46, 59, 74, 75] (by decide +kernel) (by decide +kernel)
set_option maxRecDepth 20000 in
theorem gX10_setColour_X0_paint : GoodIn wsX10_setColour (wsV RX10 224 RX0 yX0_paint wsX0_paint) := goodIn_app (goodIn_of _ (by decide +kernel)) ggX10_setColour_X0_paint
theorem dX10_setColour_0 : decode cX10_setColour 0 = .ok (.aload_n 0, 1) := by decide +kernel
theorem dX10_setColour_1 : decode cX10_setColour 1 = .ok (.iload_n 1, 1) := by decide +kernel
theorem dX10_setColour_2 : decode cX10_setColour 2 = .ok (.invokevirtual 133, 3) := by decide +kernel
theorem dX10_setColour_5 : decode cX10_setColour 5 = .ok (.aload_n 0, 1) := by decide +kernel
theorem dX10_setColour_6 : decode cX10_setColour 6 = .ok (.iload_n 2, 1) := by decide +kernel
theorem dX10_setColour_7 : decode cX10_setColour 7 = .ok (.invokevirtual 143, 3) := by decide +kernel
theorem dX10_setColour_10 : decode cX10_setColour 10 = .ok (.aload_n 0, 1) := by decide +kernel
theorem dX10_setColour_11 : decode cX10_setColour 11 = .ok (.getfield 37, 3) := by decide +kernel
theorem dX10_setColour_14 : decode cX10_setColour 14 = .ok (.iload_n 1, 1) := by decide +kernel
theorem dX10_setColour_15 : decode cX10_setColour 15 = .ok (.invokevirtual 139, 3) := by decide +kernel
theorem dX10_setColour_18 : decode cX10_setColour 18 = .ok (.ifCond .eq 13, 3) := by decide +kernel
theorem dX10_setColour_21 : decode cX10_setColour 21 = .ok (.new 219, 3) := by decide +kernel
theorem dX10_setColour_24 : decode cX10_setColour 24 = .ok (.dup, 1) := by decide +kernel
theorem dX10_setColour_25 : decode cX10_setColour 25 = .ok (.ldc 221, 2) := by decide +kernel
theorem dX10_setColour_27 : decode cX10_setColour 27 = .ok (.invokespecial 223, 3) := by decide +kernel
theorem dX10_setColour_30 : decode cX10_setColour 30 = .ok (.athrow, 1) := by decide +kernel
theorem dX10_setColour_31 : decode cX10_setColour 31 = .ok (.aload_n 0, 1) := by decide +kernel
theorem dX10_setColour_32 : decode cX10_setColour 32 = .ok (.getfield 58, 3) := by decide +kernel
theorem dX10_setColour_35 : decode cX10_setColour 35 = .ok (.aload_n 0, 1) := by decide +kernel
theorem dX10_setColour_36 : decode cX10_setColour 36 = .ok (.getfield 74, 3) := by decide +kernel
theorem dX10_setColour_39 : decode cX10_setColour 39 = .ok (.aload_n 0, 1) := by decide +kernel
theorem dX10_setColour_40 : decode cX10_setColour 40 = .ok (.getfield 37, 3) := by decide +kernel
theorem dX10_setColour_43 : decode cX10_setColour 43 = .ok (.invokevirtual 97, 3) := by decide +kernel
theorem dX10_setColour_46 : decode cX10_setColour 46 = .ok (.aload_n 0, 1) := by decide +kernel
theorem dX10_setColour_47 : decode cX10_setColour 47 = .ok (.getfield 37, 3) := by decide +kernel
theorem dX10_setColour_50 : decode cX10_setColour 50 = .ok (.iload_n 1, 1) := by decide +kernel
theorem dX10_setColour_51 : decode cX10_setColour 51 = .ok (.invokevirtual 136, 3) := by decide +kernel
theorem dX10_setColour_54 : decode cX10_setColour 54 = .ok (.istore_n 3, 1) := by decide +kernel
theorem dX10_setColour_55 : decode cX10_setColour 55 = .ok (.aload_n 0, 1) := by decide +kernel
theorem dX10_setColour_56 : decode cX10_setColour 56 = .ok (.getfield 37, 3) := by decide +kernel
theorem dX10_setColour_59 : decode cX10_setColour 59 = .ok (.iload_n 1, 1) := by decide +kernel
theorem dX10_setColour_60 : decode cX10_setColour 60 = .ok (.iload_n 2, 1) := by decide +kernel
theorem dX10_setColour_61 : decode cX10_setColour 61 = .ok (.invokevirtual 224, 3) := by decide +kernel
theorem dX10_setColour_64 : decode cX10_setColour 64 = .ok (.iload_n 3, 1) := by decide +kernel
theorem dX10_setColour_65 : decode cX10_setColour 65 = .ok (.ireturn, 1) := by decide +kernel
set_option maxRecDepth 20000 in
theorem ggX10_setFixed_X10_requireNumber : GoodIn wsX10_setFixed wsX10_requireNumber := goodIn_ca (goodIn_r _ [10, 11, 12, 5, 13, 51, 52, 53, 54, 55, 56, 57, 58, 59, 60, 61, 62, 63, 64] (by decide +kernel) (by decide +kernel)) (goodIn_sub (fun _ h => List.mem_cons_of_mem _ (List.mem_append_right _ h)) (by decide +kernel))
set_option maxRecDepth 20000 in
theorem gX10_setFixed_X10_requireNumber : GoodIn wsX10_setFixed (wsV RX10 133 RX10 yX10_requireNumber wsX10_requireNumber) := goodIn_app (goodIn_of _ (by decide +kernel)) ggX10_setFixed_X10_requireNumber
set_option maxRecDepth 20000 in
theorem ggX10_setFixed_X0_colourOf : GoodIn wsX10_setFixed wsX0_colourOf := goodIn_r _ [18, 19, 65, 66] (by decide +kernel) (by decide +kernel)
set_option maxRecDepth 20000 in
theorem gX10_setFixed_X0_colourOf : GoodIn wsX10_setFixed (wsV RX10 136 RX0 yX0_colourOf wsX0_colourOf) := goodIn_app (goodIn_of _ (by decide +kernel)) ggX10_setFixed_X0_colourOf
set_option maxRecDepth 20000 in
theorem ggX10_setFixed_X2_remember : GoodIn wsX10_setFixed wsX2_remember := goodIn_r _ [24, 25, 26, 27, 28, 29, 30, 31, 32, 33, 34, 35, 17, 36, 19, 37, 38, 39, 40, 41, 67, 68, 69, 70, 65, 66] (by decide +kernel) (by decide +kernel)
set_option maxRecDepth 20000 in
theorem gX10_setFixed_X2_remember : GoodIn wsX10_setFixed (wsV RX10 97 RX2 yX2_remember wsX2_remember) := goodIn_app (goodIn_of _ (by decide +kernel)) ggX10_setFixed_X2_remember
set_option maxRecDepth 20000 in
theorem ggX10_setFixed_X0_hasFixed : GoodIn wsX10_setFixed wsX0_hasFixed := goodIn_r _ [45, 41, 65, 66] (by decide +kernel) (by decide +kernel)
set_option maxRecDepth 20000 in
theorem gX10_setFixed_X0_hasFixed : GoodIn wsX10_setFixed (wsV RX10 139 RX0 yX0_hasFixed wsX0_hasFixed) := goodIn_app (goodIn_of _ (by decide +kernel)) ggX10_setFixed_X0_hasFixed
set_option maxRecDepth 20000 in
theorem ggX10_setFixed_X0_fix : GoodIn wsX10_setFixed wsX0_fix := goodIn_r _ [49, 41, 50, 65, 66] (by decide +kernel) (by decide +kernel)
set_option maxRecDepth 20000 in
theorem gX10_setFixed_X0_fix : GoodIn wsX10_setFixed (wsV RX10 230 RX0 yX0_fix wsX0_fix) := goodIn_app (goodIn_of _ (by decide +kernel)) ggX10_setFixed_X0_fix
theorem dX10_setFixed_0 : decode cX10_setFixed 0 = .ok (.aload_n 0, 1) := by decide +kernel
theorem dX10_setFixed_1 : decode cX10_setFixed 1 = .ok (.iload_n 1, 1) := by decide +kernel
theorem dX10_setFixed_2 : decode cX10_setFixed 2 = .ok (.invokevirtual 133, 3) := by decide +kernel
theorem dX10_setFixed_5 : decode cX10_setFixed 5 = .ok (.iload_n 2, 1) := by decide +kernel
theorem dX10_setFixed_6 : decode cX10_setFixed 6 = .ok (.ifCond .eq 25, 3) := by decide +kernel
theorem dX10_setFixed_9 : decode cX10_setFixed 9 = .ok (.aload_n 0, 1) := by decide +kernel
theorem dX10_setFixed_10 : decode cX10_setFixed 10 = .ok (.getfield 37, 3) := by decide +kernel
theorem dX10_setFixed_13 : decode cX10_setFixed 13 = .ok (.iload_n 1, 1) := by decide +kernel
theorem dX10_setFixed_14 : decode cX10_setFixed 14 = .ok (.invokevirtual 136, 3) := by decide +kernel
theorem dX10_setFixed_17 : decode cX10_setFixed 17 = .ok (.iconst (-1), 1) := by decide +kernel
theorem dX10_setFixed_18 : decode cX10_setFixed 18 = .ok (.if_icmp .ne 13, 3) := by decide +kernel
theorem dX10_setFixed_21 : decode cX10_setFixed 21 = .ok (.new 219, 3) := by decide +kernel
theorem dX10_setFixed_24 : decode cX10_setFixed 24 = .ok (.dup, 1) := by decide +kernel
theorem dX10_setFixed_25 : decode cX10_setFixed 25 = .ok (.ldc 228, 2) := by decide +kernel
theorem dX10_setFixed_27 : decode cX10_setFixed 27 = .ok (.invokespecial 223, 3) := by decide +kernel
theorem dX10_setFixed_30 : decode cX10_setFixed 30 = .ok (.athrow, 1) := by decide +kernel
theorem dX10_setFixed_31 : decode cX10_setFixed 31 = .ok (.aload_n 0, 1) := by decide +kernel
theorem dX10_setFixed_32 : decode cX10_setFixed 32 = .ok (.getfield 58, 3) := by decide +kernel
theorem dX10_setFixed_35 : decode cX10_setFixed 35 = .ok (.aload_n 0, 1) := by decide +kernel
theorem dX10_setFixed_36 : decode cX10_setFixed 36 = .ok (.getfield 74, 3) := by decide +kernel
theorem dX10_setFixed_39 : decode cX10_setFixed 39 = .ok (.aload_n 0, 1) := by decide +kernel
theorem dX10_setFixed_40 : decode cX10_setFixed 40 = .ok (.getfield 37, 3) := by decide +kernel
theorem dX10_setFixed_43 : decode cX10_setFixed 43 = .ok (.invokevirtual 97, 3) := by decide +kernel
theorem dX10_setFixed_46 : decode cX10_setFixed 46 = .ok (.aload_n 0, 1) := by decide +kernel
theorem dX10_setFixed_47 : decode cX10_setFixed 47 = .ok (.getfield 37, 3) := by decide +kernel
theorem dX10_setFixed_50 : decode cX10_setFixed 50 = .ok (.iload_n 1, 1) := by decide +kernel
theorem dX10_setFixed_51 : decode cX10_setFixed 51 = .ok (.invokevirtual 139, 3) := by decide +kernel
theorem dX10_setFixed_54 : decode cX10_setFixed 54 = .ok (.istore_n 3, 1) := by decide +kernel
theorem dX10_setFixed_55 : decode cX10_setFixed 55 = .ok (.aload_n 0, 1) := by decide +kernel
theorem dX10_setFixed_56 : decode cX10_setFixed 56 = .ok (.getfield 37, 3) := by decide +kernel
theorem dX10_setFixed_59 : decode cX10_setFixed 59 = .ok (.iload_n 1, 1) := by decide +kernel
theorem dX10_setFixed_60 : decode cX10_setFixed 60 = .ok (.iload_n 2, 1) := by decide +kernel
theorem dX10_setFixed_61 : decode cX10_setFixed 61 = .ok (.invokevirtual 230, 3) := by decide +kernel
theorem dX10_setFixed_64 : decode cX10_setFixed 64 = .ok (.iload_n 3, 1) := by decide +kernel
theorem dX10_setFixed_65 : decode cX10_setFixed 65 = .ok (.ireturn, 1) := by decide +kernel
set_option maxRecDepth 20000 in
theorem ggX10_swapColours_X10_requireColour : GoodIn wsX10_swapColours wsX10_requireColour := goodIn_ca (goodIn_r _ [8, 9, 10, 2, 11, 56, 57, 58, 59, 60, 61, 62, 63, 64, 65, 66, 67, 68, 69] (by decide +kernel) (by decide +kernel)) (goodIn_sub (fun _ h => List.mem_cons_of_mem _ (List.mem_append_right _ h)) (by decide +kernel))
set_option maxRecDepth 20000 in
theorem gX10_swapColours_X10_requireColour : GoodIn wsX10_swapColours (wsV RX10 234 RX10 yX10_requireColour wsX10_requireColour) := goodIn_app (goodIn_of _ (by decide +kernel)) ggX10_swapColours_X10_requireColour
set_option maxRecDepth 20000 in
theorem ggX10_swapColours_X2_remember : GoodIn wsX10_swapColours wsX2_remember := goodIn_r _ [16, 17, 18, 19, 20, 21, 22, 23, 24, 25, 26, 27, 28, 29, 30, 31, 32, 33, 34, 35, 70, 71, 72, 73, 74, 75] (by decide +kernel) (by decide +kernel)
set_option maxRecDepth 20000 in
theorem gX10_swapColours_X2_remember : GoodIn wsX10_swapColours (wsV RX10 97 RX2 yX2_remember wsX2_remember) := goodIn_app (goodIn_of _ (by decide +kernel)) ggX10_swapColours_X2_remember
set_option maxRecDepth 20000 in
theorem ggX10_swapColours_X0_exchange : GoodIn wsX10_swapColours wsX0_exchange := goodIn_r _ [39, 30, 74, 75] (by decide +kernel) (by decide +kernel)
set_option maxRecDepth 20000 in
theorem gX10_swapColours_X0_exchange : GoodIn wsX10_swapColours (wsV RX10 237 RX0 yX0_exchange wsX0_exchange) := goodIn_app (goodIn_of _ (by decide +kernel)) ggX10_swapColours_X0_exchange
set_option maxRecDepth 20000 in
theorem ggX10_swapColours_X10_countPainted : GoodIn wsX10_swapColours wsX10_countPainted := goodIn_r _ [43, 3, 2, 44, 11, 45, 46, 47, 28, 48, 30, 49, 50, 51, 52, 53, 54, 55, 56, 57, 58, 59, 60, 61, 62, 63, 64, 65, 66, 67, 68, 69, 74, 75] (by decide +kernel) (by decide +kernel)
set_option maxRecDepth 20000 in
theorem gX10_swapColours_X10_countPainted : GoodIn wsX10_swapColours (wsV RX10 146 RX10 yX10_countPainted wsX10_countPainted) := goodIn_app (goodIn_of _ (by decide +kernel)) ggX10_swapColours_X10_countPainted
theorem dX10_swapColours_0 : decode cX10_swapColours 0 = .ok (.aload_n 0, 1) := by decide +kernel
theorem dX10_swapColours_1 : decode cX10_swapColours 1 = .ok (.iload_n 1, 1) := by decide +kernel
theorem dX10_swapColours_2 : decode cX10_swapColours 2 = .ok (.invokevirtual 234, 3) := by decide +kernel
theorem dX10_swapColours_5 : decode cX10_swapColours 5 = .ok (.aload_n 0, 1) := by decide +kernel
theorem dX10_swapColours_6 : decode cX10_swapColours 6 = .ok (.iload_n 2, 1) := by decide +kernel
theorem dX10_swapColours_7 : decode cX10_swapColours 7 = .ok (.invokevirtual 234, 3) := by decide +kernel
theorem dX10_swapColours_10 : decode cX10_swapColours 10 = .ok (.aload_n 0, 1) := by decide +kernel
theorem dX10_swapColours_11 : decode cX10_swapColours 11 = .ok (.getfield 58, 3) := by decide +kernel
theorem dX10_swapColours_14 : decode cX10_swapColours 14 = .ok (.aload_n 0, 1) := by decide +kernel
theorem dX10_swapColours_15 : decode cX10_swapColours 15 = .ok (.getfield 74, 3) := by decide +kernel
theorem dX10_swapColours_18 : decode cX10_swapColours 18 = .ok (.aload_n 0, 1) := by decide +kernel
theorem dX10_swapColours_19 : decode cX10_swapColours 19 = .ok (.getfield 37, 3) := by decide +kernel
theorem dX10_swapColours_22 : decode cX10_swapColours 22 = .ok (.invokevirtual 97, 3) := by decide +kernel
theorem dX10_swapColours_25 : decode cX10_swapColours 25 = .ok (.iload_n 1, 1) := by decide +kernel
theorem dX10_swapColours_26 : decode cX10_swapColours 26 = .ok (.iload_n 2, 1) := by decide +kernel
theorem dX10_swapColours_27 : decode cX10_swapColours 27 = .ok (.if_icmp .ne 5, 3) := by decide +kernel
theorem dX10_swapColours_30 : decode cX10_swapColours 30 = .ok (.iconst 0, 1) := by decide +kernel
theorem dX10_swapColours_31 : decode cX10_swapColours 31 = .ok (.ireturn, 1) := by decide +kernel
theorem dX10_swapColours_32 : decode cX10_swapColours 32 = .ok (.aload_n 0, 1) := by decide +kernel
theorem dX10_swapColours_33 : decode cX10_swapColours 33 = .ok (.getfield 37, 3) := by decide +kernel
theorem dX10_swapColours_36 : decode cX10_swapColours 36 = .ok (.iload_n 1, 1) := by decide +kernel
theorem dX10_swapColours_37 : decode cX10_swapColours 37 = .ok (.iload_n 2, 1) := by decide +kernel
theorem dX10_swapColours_38 : decode cX10_swapColours 38 = .ok (.invokevirtual 237, 3) := by decide +kernel
theorem dX10_swapColours_41 : decode cX10_swapColours 41 = .ok (.aload_n 0, 1) := by decide +kernel
theorem dX10_swapColours_42 : decode cX10_swapColours 42 = .ok (.iload_n 1, 1) := by decide +kernel
theorem dX10_swapColours_43 : decode cX10_swapColours 43 = .ok (.invokevirtual 146, 3) := by decide +kernel
theorem dX10_swapColours_46 : decode cX10_swapColours 46 = .ok (.aload_n 0, 1) := by decide +kernel
theorem dX10_swapColours_47 : decode cX10_swapColours 47 = .ok (.iload_n 2, 1) := by decide +kernel
theorem dX10_swapColours_48 : decode cX10_swapColours 48 = .ok (.invokevirtual 146, 3) := by decide +kernel
theorem dX10_swapColours_51 : decode cX10_swapColours 51 = .ok (.iadd, 1) := by decide +kernel
theorem dX10_swapColours_52 : decode cX10_swapColours 52 = .ok (.ireturn, 1) := by decide +kernel
set_option maxRecDepth 20000 in
theorem ggX10_extend_X10_requireNumber : GoodIn wsX10_extend wsX10_requireNumber := goodIn_ca (goodIn_r _ [12, 13, 14, 4, 15, 96, 97, 98, 99, 100, 101, 102, 103, 104, 105, 106, 107, 108, 109] (by decide +kernel) (by decide +kernel)) (goodIn_sub (fun _ h => List.mem_cons_of_mem _ (List.mem_append_left _ (List.mem_append_right _ h))) (by decide +kernel))
set_option maxRecDepth 20000 in
theorem gX10_extend_X10_requireNumber : GoodIn wsX10_extend (wsV RX10 133 RX10 yX10_requireNumber wsX10_requireNumber) := goodIn_app (goodIn_of _ (by decide +kernel)) ggX10_extend_X10_requireNumber
set_option maxRecDepth 20000 in
theorem ggX10_extend_X10_requireTrials : GoodIn wsX10_extend wsX10_requireTrials := goodIn_ca (goodIn_r _ [19, 20, 21] (by decide +kernel) (by decide +kernel)) (goodIn_sub (fun _ h => List.mem_cons_of_mem _ (List.mem_append_right _ h)) (by decide +kernel))
set_option maxRecDepth 20000 in
theorem gX10_extend_X10_requireTrials : GoodIn wsX10_extend (wsV RX10 201 RX10 yX10_requireTrials wsX10_requireTrials) := goodIn_app (goodIn_of _ (by decide +kernel)) ggX10_extend_X10_requireTrials
set_option maxRecDepth 20000 in
theorem ggX10_extend_X5_run : GoodIn wsX10_extend wsX5_run := goodIn_r _ [26, 27, 28, 29, 30, 31, 32, 33, 34, 35, 36, 37, 38, 39, 40, 41, 42, 43, 44, 45, 46, 47, 48, 49, 25, 50, 51, 52, 53, 54, 55, 56, 57, 58, 59, 60, 61, 62, 63, 64, 65, 66, 67, 68, 69, 70, 71, 72, 73, 74, 75, 76, 77, 78, 79, 80, 81, 82, 83, 110, 111, 112, 113, 114, 115, 116, 117, 118, 119, 120, 121, 122, 123, 124, 125] (by decide +kernel) (by decide +kernel)
set_option maxRecDepth 20000 in
theorem gX10_extend_X5_run : GoodIn wsX10_extend (wsV RX10 204 RX5 yX5_run wsX5_run) := goodIn_app (goodIn_of _ (by decide +kernel)) ggX10_extend_X5_run
set_option maxRecDepth 20000 in
theorem ggX10_extend_X2_remember : GoodIn wsX10_extend wsX2_remember := goodIn_r _ [88, 89, 90, 91, 92, 93, 80, 34, 81, 94, 37, 38, 39, 40, 41, 42, 43, 44, 45, 46, 126, 127, 128, 129, 116, 117] (by decide +kernel) (by decide +kernel)
set_option maxRecDepth 20000 in
theorem gX10_extend_X2_remember : GoodIn wsX10_extend (wsV RX10 97 RX2 yX2_remember wsX2_remember) := goodIn_app (goodIn_of _ (by decide +kernel)) ggX10_extend_X2_remember
set_option maxRecDepth 20000 in
theorem ggX10_extend_X0_copyFrom : GoodIn wsX10_extend wsX0_copyFrom := goodIn_r _ [40, 41, 42, 43, 44, 45, 46, 116, 117] (by decide +kernel) (by decide +kernel)
set_option maxRecDepth 20000 in
theorem gX10_extend_X0_copyFrom : GoodIn wsX10_extend (wsV RX10 106 RX0 yX0_copyFrom wsX0_copyFrom) := goodIn_app (goodIn_of _ (by decide +kernel)) ggX10_extend_X0_copyFrom
theorem dX10_extend_0 : decode cX10_extend 0 = .ok (.aload_n 0, 1) := by decide +kernel
theorem dX10_extend_1 : decode cX10_extend 1 = .ok (.iload_n 1, 1) := by decide +kernel
theorem dX10_extend_2 : decode cX10_extend 2 = .ok (.invokevirtual 133, 3) := by decide +kernel
theorem dX10_extend_5 : decode cX10_extend 5 = .ok (.aload_n 0, 1) := by decide +kernel
theorem dX10_extend_6 : decode cX10_extend 6 = .ok (.iload_n 2, 1) := by decide +kernel
theorem dX10_extend_7 : decode cX10_extend 7 = .ok (.invokevirtual 201, 3) := by decide +kernel
theorem dX10_extend_10 : decode cX10_extend 10 = .ok (.aload_n 0, 1) := by decide +kernel
theorem dX10_extend_11 : decode cX10_extend 11 = .ok (.getfield 44, 3) := by decide +kernel
theorem dX10_extend_14 : decode cX10_extend 14 = .ok (.aload_n 0, 1) := by decide +kernel
theorem dX10_extend_15 : decode cX10_extend 15 = .ok (.getfield 30, 3) := by decide +kernel
theorem dX10_extend_18 : decode cX10_extend 18 = .ok (.aload_n 0, 1) := by decide +kernel
theorem dX10_extend_19 : decode cX10_extend 19 = .ok (.getfield 37, 3) := by decide +kernel
theorem dX10_extend_22 : decode cX10_extend 22 = .ok (.iload_n 1, 1) := by decide +kernel
theorem dX10_extend_23 : decode cX10_extend 23 = .ok (.aload_n 0, 1) := by decide +kernel
theorem dX10_extend_24 : decode cX10_extend 24 = .ok (.getfield 74, 3) := by decide +kernel
theorem dX10_extend_27 : decode cX10_extend 27 = .ok (.getfield 121, 3) := by decide +kernel
theorem dX10_extend_30 : decode cX10_extend 30 = .ok (.iload_n 2, 1) := by decide +kernel
theorem dX10_extend_31 : decode cX10_extend 31 = .ok (.invokevirtual 204, 3) := by decide +kernel
theorem dX10_extend_34 : decode cX10_extend 34 = .ok (.istore_n 3, 1) := by decide +kernel
theorem dX10_extend_35 : decode cX10_extend 35 = .ok (.iload_n 3, 1) := by decide +kernel
theorem dX10_extend_36 : decode cX10_extend 36 = .ok (.ifCond .lt 32, 3) := by decide +kernel
theorem dX10_extend_39 : decode cX10_extend 39 = .ok (.aload_n 0, 1) := by decide +kernel
theorem dX10_extend_40 : decode cX10_extend 40 = .ok (.getfield 58, 3) := by decide +kernel
theorem dX10_extend_43 : decode cX10_extend 43 = .ok (.aload_n 0, 1) := by decide +kernel
theorem dX10_extend_44 : decode cX10_extend 44 = .ok (.getfield 74, 3) := by decide +kernel
theorem dX10_extend_47 : decode cX10_extend 47 = .ok (.aload_n 0, 1) := by decide +kernel
theorem dX10_extend_48 : decode cX10_extend 48 = .ok (.getfield 37, 3) := by decide +kernel
theorem dX10_extend_51 : decode cX10_extend 51 = .ok (.invokevirtual 97, 3) := by decide +kernel
theorem dX10_extend_54 : decode cX10_extend 54 = .ok (.aload_n 0, 1) := by decide +kernel
theorem dX10_extend_55 : decode cX10_extend 55 = .ok (.getfield 37, 3) := by decide +kernel
theorem dX10_extend_58 : decode cX10_extend 58 = .ok (.aload_n 0, 1) := by decide +kernel
theorem dX10_extend_59 : decode cX10_extend 59 = .ok (.getfield 44, 3) := by decide +kernel
theorem dX10_extend_62 : decode cX10_extend 62 = .ok (.getfield 240, 3) := by decide +kernel
theorem dX10_extend_65 : decode cX10_extend 65 = .ok (.invokevirtual 106, 3) := by decide +kernel
theorem dX10_extend_68 : decode cX10_extend 68 = .ok (.iload_n 3, 1) := by decide +kernel
theorem dX10_extend_69 : decode cX10_extend 69 = .ok (.ireturn, 1) := by decide +kernel
set_option maxRecDepth 20000 in
theorem ggX10_repair_X2_remember : GoodIn wsX10_repair wsX2_remember := goodIn_r _ [15, 16, 17, 18, 19, 20, 21, 22, 23, 24, 25, 26, 27, 28, 29, 30, 31, 32, 33, 34, 122, 123, 124, 125, 126, 127] (by decide +kernel) (by decide +kernel)
set_option maxRecDepth 20000 in
theorem gX10_repair_X2_remember : GoodIn wsX10_repair (wsV RX10 97 RX2 yX2_remember wsX2_remember) := goodIn_app (goodIn_of _ (by decide +kernel)) ggX10_repair_X2_remember
set_option maxRecDepth 20000 in
theorem ggX10_repair_X3_find : GoodIn wsX10_repair wsX3_find := goodIn_r _ [39, 40, 41, 42, 43, 44, 45, 46, 47, 48, 38, 49, 50, 51, 52, 53, 54, 55, 56, 57, 58, 27, 59, 29, 60, 61, 62, 63, 64, 65, 66, 67, 68, 69, 70, 71, 72, 73, 74, 75, 76, 77, 78, 79, 80, 81, 82, 83, 84, 85, 86, 87, 88, 89, 90, 91, 92, 93, 94, 95, 96, 97, 98, 34, 99, 100, 101, 102, 118, 119, 120, 121, 128, 129, 130, 131, 126, 127, 132, 133, 134, 135, 136, 137, 138, 139] (by decide +kernel) (by decide +kernel)
set_option maxRecDepth 20000 in
theorem gX10_repair_X3_find : GoodIn wsX10_repair (wsV RX10 212 RX3 yX3_find wsX3_find) := goodIn_app (goodIn_of _ (by decide +kernel)) ggX10_repair_X3_find
set_option maxRecDepth 20000 in
theorem ggX10_repair_X0_paint : GoodIn wsX10_repair wsX0_paint := goodIn_r _ [106, 29, 107, 126, 127] (by decide +kernel) (by decide +kernel)
set_option maxRecDepth 20000 in
theorem gX10_repair_X0_paint : GoodIn wsX10_repair (wsV RX10 224 RX0 yX0_paint wsX0_paint) := goodIn_app (goodIn_of _ (by decide +kernel)) ggX10_repair_X0_paint
theorem dX10_repair_0 : decode cX10_repair 0 = .ok (.iload_n 1, 1) := by decide +kernel
theorem dX10_repair_1 : decode cX10_repair 1 = .ok (.iconst 1, 1) := by decide +kernel
theorem dX10_repair_2 : decode cX10_repair 2 = .ok (.if_icmp .lt 9, 3) := by decide +kernel
theorem dX10_repair_5 : decode cX10_repair 5 = .ok (.iload_n 1, 1) := by decide +kernel
theorem dX10_repair_6 : decode cX10_repair 6 = .ok (.bipush 10, 2) := by decide +kernel
theorem dX10_repair_8 : decode cX10_repair 8 = .ok (.if_icmp .le 13, 3) := by decide +kernel
theorem dX10_repair_11 : decode cX10_repair 11 = .ok (.new 82, 3) := by decide +kernel
theorem dX10_repair_14 : decode cX10_repair 14 = .ok (.dup, 1) := by decide +kernel
theorem dX10_repair_15 : decode cX10_repair 15 = .ok (.ldc 241, 2) := by decide +kernel
theorem dX10_repair_17 : decode cX10_repair 17 = .ok (.invokespecial 86, 3) := by decide +kernel
theorem dX10_repair_20 : decode cX10_repair 20 = .ok (.athrow, 1) := by decide +kernel
theorem dX10_repair_21 : decode cX10_repair 21 = .ok (.aload_n 0, 1) := by decide +kernel
theorem dX10_repair_22 : decode cX10_repair 22 = .ok (.getfield 58, 3) := by decide +kernel
theorem dX10_repair_25 : decode cX10_repair 25 = .ok (.aload_n 0, 1) := by decide +kernel
theorem dX10_repair_26 : decode cX10_repair 26 = .ok (.getfield 74, 3) := by decide +kernel
theorem dX10_repair_29 : decode cX10_repair 29 = .ok (.aload_n 0, 1) := by decide +kernel
theorem dX10_repair_30 : decode cX10_repair 30 = .ok (.getfield 37, 3) := by decide +kernel
theorem dX10_repair_33 : decode cX10_repair 33 = .ok (.invokevirtual 97, 3) := by decide +kernel
theorem dX10_repair_36 : decode cX10_repair 36 = .ok (.iconst 0, 1) := by decide +kernel
theorem dX10_repair_37 : decode cX10_repair 37 = .ok (.istore_n 2, 1) := by decide +kernel
theorem dX10_repair_38 : decode cX10_repair 38 = .ok (.iload_n 2, 1) := by decide +kernel
theorem dX10_repair_39 : decode cX10_repair 39 = .ok (.iload_n 1, 1) := by decide +kernel
theorem dX10_repair_40 : decode cX10_repair 40 = .ok (.if_icmp .ge 61, 3) := by decide +kernel
theorem dX10_repair_43 : decode cX10_repair 43 = .ok (.aload_n 0, 1) := by decide +kernel
theorem dX10_repair_44 : decode cX10_repair 44 = .ok (.getfield 51, 3) := by decide +kernel
theorem dX10_repair_47 : decode cX10_repair 47 = .ok (.aload_n 0, 1) := by decide +kernel
theorem dX10_repair_48 : decode cX10_repair 48 = .ok (.getfield 74, 3) := by decide +kernel
theorem dX10_repair_51 : decode cX10_repair 51 = .ok (.aload_n 0, 1) := by decide +kernel
theorem dX10_repair_52 : decode cX10_repair 52 = .ok (.getfield 30, 3) := by decide +kernel
theorem dX10_repair_55 : decode cX10_repair 55 = .ok (.aload_n 0, 1) := by decide +kernel
theorem dX10_repair_56 : decode cX10_repair 56 = .ok (.getfield 37, 3) := by decide +kernel
theorem dX10_repair_59 : decode cX10_repair 59 = .ok (.invokevirtual 212, 3) := by decide +kernel
theorem dX10_repair_62 : decode cX10_repair 62 = .ok (.aload_n 0, 1) := by decide +kernel
theorem dX10_repair_63 : decode cX10_repair 63 = .ok (.getfield 51, 3) := by decide +kernel
theorem dX10_repair_66 : decode cX10_repair 66 = .ok (.getfield 216, 3) := by decide +kernel
theorem dX10_repair_69 : decode cX10_repair 69 = .ok (.ifCond .gt 5, 3) := by decide +kernel
theorem dX10_repair_72 : decode cX10_repair 72 = .ok (.iload_n 2, 1) := by decide +kernel
theorem dX10_repair_73 : decode cX10_repair 73 = .ok (.ireturn, 1) := by decide +kernel
theorem dX10_repair_74 : decode cX10_repair 74 = .ok (.aload_n 0, 1) := by decide +kernel
theorem dX10_repair_75 : decode cX10_repair 75 = .ok (.getfield 37, 3) := by decide +kernel
theorem dX10_repair_78 : decode cX10_repair 78 = .ok (.aload_n 0, 1) := by decide +kernel
theorem dX10_repair_79 : decode cX10_repair 79 = .ok (.getfield 51, 3) := by decide +kernel
theorem dX10_repair_82 : decode cX10_repair 82 = .ok (.getfield 243, 3) := by decide +kernel
theorem dX10_repair_85 : decode cX10_repair 85 = .ok (.aload_n 0, 1) := by decide +kernel
theorem dX10_repair_86 : decode cX10_repair 86 = .ok (.getfield 51, 3) := by decide +kernel
theorem dX10_repair_89 : decode cX10_repair 89 = .ok (.getfield 246, 3) := by decide +kernel
theorem dX10_repair_92 : decode cX10_repair 92 = .ok (.invokevirtual 224, 3) := by decide +kernel
theorem dX10_repair_95 : decode cX10_repair 95 = .ok (.iinc 2 1, 3) := by decide +kernel
theorem dX10_repair_98 : decode cX10_repair 98 = .ok (.goto (-60), 3) := by decide +kernel
theorem dX10_repair_101 : decode cX10_repair 101 = .ok (.iload_n 1, 1) := by decide +kernel
theorem dX10_repair_102 : decode cX10_repair 102 = .ok (.ireturn, 1) := by decide +kernel
set_option maxRecDepth 20000 in
theorem ggX10_undo_X2_latestSetup : GoodIn wsX10_undo wsX2_latestSetup := goodIn_r _ [9, 10, 11, 12, 13, 14, 8, 15, 16, 132, 133, 134, 135] (by decide +kernel) (by decide +kernel)
set_option maxRecDepth 20000 in
theorem gX10_undo_X2_latestSetup : GoodIn wsX10_undo (wsV RX10 249 RX2 yX2_latestSetup wsX2_latestSetup) := goodIn_app (goodIn_of _ (by decide +kernel)) ggX10_undo_X2_latestSetup
set_option maxRecDepth 20000 in
theorem ggX10_undo_X2_takeBack : GoodIn wsX10_undo wsX2_takeBack := goodIn_r _ [20, 10, 16, 21, 12, 13, 14, 8, 15, 22, 23, 24, 25, 26, 27, 28, 29, 30, 31, 32, 132, 133, 134, 135, 136, 137] (by decide +kernel) (by decide +kernel)
set_option maxRecDepth 20000 in
theorem gX10_undo_X2_takeBack : GoodIn wsX10_undo (wsV RX10 252 RX2 yX2_takeBack wsX2_takeBack) := goodIn_app (goodIn_of _ (by decide +kernel)) ggX10_undo_X2_takeBack
set_option maxRecDepth 20000 in
theorem ggX10_undo_X8_prepare : GoodIn wsX10_undo wsX8_prepare := goodIn_r _ [37, 38, 39, 40, 41, 42, 43, 44, 45, 46, 47, 48, 49, 50, 51, 52, 53, 54, 55, 56, 57, 58, 59, 36, 60, 61, 62, 63, 64, 65, 66, 67, 68, 69, 70, 71, 72, 73, 74, 75, 76, 77, 78, 79, 80, 81, 82, 83, 84, 85, 86, 87, 88, 89, 90, 91, 92, 93, 94, 95, 96, 97, 98, 99, 100, 101, 102, 103, 104, 105, 106, 107, 108, 109, 110, 111, 112, 113, 114, 115, 116, 117, 138, 139, 140, 141, 142, 143, 144, 145, 146, 147, 148, 149, 150, 151, 152, 153, 154, 155, 156, 157] (by decide +kernel) (by decide +kernel)
set_option maxRecDepth 20000 in
theorem gX10_undo_X8_prepare : GoodIn wsX10_undo (wsV RX10 110 RX8 yX8_prepare wsX8_prepare) := goodIn_app (goodIn_of _ (by decide +kernel)) ggX10_undo_X8_prepare
set_option maxRecDepth 20000 in
theorem ggX10_undo_X2_size : GoodIn wsX10_undo wsX2_size := goodIn_r _ [121, 10, 132, 133, 134, 135] (by decide +kernel) (by decide +kernel)
set_option maxRecDepth 20000 in
theorem gX10_undo_X2_size : GoodIn wsX10_undo (wsV RX10 255 RX2 yX2_size wsX2_size) := goodIn_app (goodIn_of _ (by decide +kernel)) ggX10_undo_X2_size
theorem dX10_undo_0 : decode cX10_undo 0 = .ok (.aload_n 0, 1) := by decide +kernel
theorem dX10_undo_1 : decode cX10_undo 1 = .ok (.getfield 58, 3) := by decide +kernel
theorem dX10_undo_4 : decode cX10_undo 4 = .ok (.invokevirtual 249, 3) := by decide +kernel
theorem dX10_undo_7 : decode cX10_undo 7 = .ok (.astore_n 1, 1) := by decide +kernel
theorem dX10_undo_8 : decode cX10_undo 8 = .ok (.aload_n 1, 1) := by decide +kernel
theorem dX10_undo_9 : decode cX10_undo 9 = .ok (.ifnonnull 5, 3) := by decide +kernel
theorem dX10_undo_12 : decode cX10_undo 12 = .ok (.iconst (-1), 1) := by decide +kernel
theorem dX10_undo_13 : decode cX10_undo 13 = .ok (.ireturn, 1) := by decide +kernel
theorem dX10_undo_14 : decode cX10_undo 14 = .ok (.aload_n 0, 1) := by decide +kernel
theorem dX10_undo_15 : decode cX10_undo 15 = .ok (.getfield 58, 3) := by decide +kernel
theorem dX10_undo_18 : decode cX10_undo 18 = .ok (.aload_n 0, 1) := by decide +kernel
theorem dX10_undo_19 : decode cX10_undo 19 = .ok (.getfield 37, 3) := by decide +kernel
theorem dX10_undo_22 : decode cX10_undo 22 = .ok (.invokevirtual 252, 3) := by decide +kernel
theorem dX10_undo_25 : decode cX10_undo 25 = .ok (.aload_n 1, 1) := by decide +kernel
theorem dX10_undo_26 : decode cX10_undo 26 = .ok (.aload_n 0, 1) := by decide +kernel
theorem dX10_undo_27 : decode cX10_undo 27 = .ok (.getfield 74, 3) := by decide +kernel
theorem dX10_undo_30 : decode cX10_undo 30 = .ok (.if_acmp .eq 19, 3) := by decide +kernel
theorem dX10_undo_33 : decode cX10_undo 33 = .ok (.aload_n 0, 1) := by decide +kernel
theorem dX10_undo_34 : decode cX10_undo 34 = .ok (.aload_n 1, 1) := by decide +kernel
theorem dX10_undo_35 : decode cX10_undo 35 = .ok (.putfield 74, 3) := by decide +kernel
theorem dX10_undo_38 : decode cX10_undo 38 = .ok (.aload_n 0, 1) := by decide +kernel
theorem dX10_undo_39 : decode cX10_undo 39 = .ok (.getfield 30, 3) := by decide +kernel
theorem dX10_undo_42 : decode cX10_undo 42 = .ok (.aload_n 0, 1) := by decide +kernel
theorem dX10_undo_43 : decode cX10_undo 43 = .ok (.getfield 74, 3) := by decide +kernel
theorem dX10_undo_46 : decode cX10_undo 46 = .ok (.invokevirtual 110, 3) := by decide +kernel
theorem dX10_undo_49 : decode cX10_undo 49 = .ok (.aload_n 0, 1) := by decide +kernel
theorem dX10_undo_50 : decode cX10_undo 50 = .ok (.getfield 58, 3) := by decide +kernel
theorem dX10_undo_53 : decode cX10_undo 53 = .ok (.invokevirtual 255, 3) := by decide +kernel
theorem dX10_undo_56 : decode cX10_undo 56 = .ok (.ireturn, 1) := by decide +kernel
set_option maxRecDepth 20000 in
theorem ggX10_checksum_X0_colourOf : GoodIn wsX10_checksum wsX0_colourOf := goodIn_r _ [10, 11, 54, 55] (by decide +kernel) (by decide +kernel)
set_option maxRecDepth 20000 in
theorem gX10_checksum_X0_colourOf : GoodIn wsX10_checksum (wsV RX10 136 RX0 yX0_colourOf wsX0_colourOf) := goodIn_app (goodIn_of _ (by decide +kernel)) ggX10_checksum_X0_colourOf
set_option maxRecDepth 20000 in
theorem ggX10_checksum_X0_hasFixed : GoodIn wsX10_checksum wsX0_hasFixed := goodIn_r _ [15, 16, 54, 55] (by decide +kernel) (by decide +kernel)
set_option maxRecDepth 20000 in
theorem gX10_checksum_X0_hasFixed : GoodIn wsX10_checksum (wsV RX10 139 RX0 yX0_hasFixed wsX0_hasFixed) := goodIn_app (goodIn_of _ (by decide +kernel)) ggX10_checksum_X0_hasFixed
set_option maxRecDepth 20000 in
theorem ggX10_checksum_X8_countConflicts : GoodIn wsX10_checksum wsX8_countConflicts := goodIn_r _ [21, 22, 23, 24, 25, 26, 27, 9, 28, 11, 29, 56, 57, 58, 59, 60, 61, 62, 63, 54, 55] (by decide +kernel) (by decide +kernel)
set_option maxRecDepth 20000 in
theorem gX10_checksum_X8_countConflicts : GoodIn wsX10_checksum (wsV RX10 159 RX8 yX8_countConflicts wsX8_countConflicts) := goodIn_app (goodIn_of _ (by decide +kernel)) ggX10_checksum_X8_countConflicts
set_option maxRecDepth 20000 in
theorem ggX10_checksum_X8_weighConflicts : GoodIn wsX10_checksum wsX8_weighConflicts := goodIn_r _ [33, 22, 23, 25, 26, 27, 9, 28, 11, 29, 34, 35, 36, 20, 37, 38, 39, 56, 57, 58, 59, 60, 61, 62, 63, 54, 55] (by decide +kernel) (by decide +kernel)
set_option maxRecDepth 20000 in
theorem gX10_checksum_X8_weighConflicts : GoodIn wsX10_checksum (wsV RX10 163 RX8 yX8_weighConflicts wsX8_weighConflicts) := goodIn_app (goodIn_of _ (by decide +kernel)) ggX10_checksum_X8_weighConflicts
theorem dX10_checksum_0 : decode cX10_checksum 0 = .ok (.lconst 0, 1) := by decide +kernel
theorem dX10_checksum_1 : decode cX10_checksum 1 = .ok (.lstore_n 1, 1) := by decide +kernel
theorem dX10_checksum_2 : decode cX10_checksum 2 = .ok (.iconst 1, 1) := by decide +kernel
theorem dX10_checksum_3 : decode cX10_checksum 3 = .ok (.istore_n 3, 1) := by decide +kernel
theorem dX10_checksum_4 : decode cX10_checksum 4 = .ok (.iload_n 3, 1) := by decide +kernel
theorem dX10_checksum_5 : decode cX10_checksum 5 = .ok (.aload_n 0, 1) := by decide +kernel
theorem dX10_checksum_6 : decode cX10_checksum 6 = .ok (.getfield 74, 3) := by decide +kernel
theorem dX10_checksum_9 : decode cX10_checksum 9 = .ok (.getfield 118, 3) := by decide +kernel
theorem dX10_checksum_12 : decode cX10_checksum 12 = .ok (.if_icmp .gt 49, 3) := by decide +kernel
theorem dX10_checksum_15 : decode cX10_checksum 15 = .ok (.ldc2_w 259, 3) := by decide +kernel
theorem dX10_checksum_18 : decode cX10_checksum 18 = .ok (.lload_n 1, 1) := by decide +kernel
theorem dX10_checksum_19 : decode cX10_checksum 19 = .ok (.lmul, 1) := by decide +kernel
theorem dX10_checksum_20 : decode cX10_checksum 20 = .ok (.aload_n 0, 1) := by decide +kernel
theorem dX10_checksum_21 : decode cX10_checksum 21 = .ok (.getfield 37, 3) := by decide +kernel
theorem dX10_checksum_24 : decode cX10_checksum 24 = .ok (.iload_n 3, 1) := by decide +kernel
theorem dX10_checksum_25 : decode cX10_checksum 25 = .ok (.invokevirtual 136, 3) := by decide +kernel
theorem dX10_checksum_28 : decode cX10_checksum 28 = .ok (.i2l, 1) := by decide +kernel
theorem dX10_checksum_29 : decode cX10_checksum 29 = .ok (.ladd, 1) := by decide +kernel
theorem dX10_checksum_30 : decode cX10_checksum 30 = .ok (.lstore_n 1, 1) := by decide +kernel
theorem dX10_checksum_31 : decode cX10_checksum 31 = .ok (.ldc2_w 259, 3) := by decide +kernel
theorem dX10_checksum_34 : decode cX10_checksum 34 = .ok (.lload_n 1, 1) := by decide +kernel
theorem dX10_checksum_35 : decode cX10_checksum 35 = .ok (.lmul, 1) := by decide +kernel
theorem dX10_checksum_36 : decode cX10_checksum 36 = .ok (.aload_n 0, 1) := by decide +kernel
theorem dX10_checksum_37 : decode cX10_checksum 37 = .ok (.getfield 37, 3) := by decide +kernel
theorem dX10_checksum_40 : decode cX10_checksum 40 = .ok (.iload_n 3, 1) := by decide +kernel
theorem dX10_checksum_41 : decode cX10_checksum 41 = .ok (.invokevirtual 139, 3) := by decide +kernel
theorem dX10_checksum_44 : decode cX10_checksum 44 = .ok (.ifCond .eq 7, 3) := by decide +kernel
theorem dX10_checksum_47 : decode cX10_checksum 47 = .ok (.iconst 1, 1) := by decide +kernel
theorem dX10_checksum_48 : decode cX10_checksum 48 = .ok (.goto 4, 3) := by decide +kernel
theorem dX10_checksum_51 : decode cX10_checksum 51 = .ok (.iconst 0, 1) := by decide +kernel
theorem dX10_checksum_52 : decode cX10_checksum 52 = .ok (.i2l, 1) := by decide +kernel
theorem dX10_checksum_53 : decode cX10_checksum 53 = .ok (.ladd, 1) := by decide +kernel
theorem dX10_checksum_54 : decode cX10_checksum 54 = .ok (.lstore_n 1, 1) := by decide +kernel
theorem dX10_checksum_55 : decode cX10_checksum 55 = .ok (.iinc 3 1, 3) := by decide +kernel
theorem dX10_checksum_58 : decode cX10_checksum 58 = .ok (.goto (-54), 3) := by decide +kernel
theorem dX10_checksum_61 : decode cX10_checksum 61 = .ok (.ldc2_w 259, 3) := by decide +kernel
theorem dX10_checksum_64 : decode cX10_checksum 64 = .ok (.lload_n 1, 1) := by decide +kernel
theorem dX10_checksum_65 : decode cX10_checksum 65 = .ok (.lmul, 1) := by decide +kernel
theorem dX10_checksum_66 : decode cX10_checksum 66 = .ok (.aload_n 0, 1) := by decide +kernel
theorem dX10_checksum_67 : decode cX10_checksum 67 = .ok (.getfield 30, 3) := by decide +kernel
theorem dX10_checksum_70 : decode cX10_checksum 70 = .ok (.aload_n 0, 1) := by decide +kernel
theorem dX10_checksum_71 : decode cX10_checksum 71 = .ok (.getfield 37, 3) := by decide +kernel
theorem dX10_checksum_74 : decode cX10_checksum 74 = .ok (.lconst 0, 1) := by decide +kernel
theorem dX10_checksum_75 : decode cX10_checksum 75 = .ok (.invokevirtual 159, 3) := by decide +kernel
theorem dX10_checksum_78 : decode cX10_checksum 78 = .ok (.i2l, 1) := by decide +kernel
theorem dX10_checksum_79 : decode cX10_checksum 79 = .ok (.ladd, 1) := by decide +kernel
theorem dX10_checksum_80 : decode cX10_checksum 80 = .ok (.lstore_n 1, 1) := by decide +kernel
theorem dX10_checksum_81 : decode cX10_checksum 81 = .ok (.ldc2_w 259, 3) := by decide +kernel
theorem dX10_checksum_84 : decode cX10_checksum 84 = .ok (.lload_n 1, 1) := by decide +kernel
theorem dX10_checksum_85 : decode cX10_checksum 85 = .ok (.lmul, 1) := by decide +kernel
theorem dX10_checksum_86 : decode cX10_checksum 86 = .ok (.aload_n 0, 1) := by decide +kernel
theorem dX10_checksum_87 : decode cX10_checksum 87 = .ok (.getfield 30, 3) := by decide +kernel
theorem dX10_checksum_90 : decode cX10_checksum 90 = .ok (.aload_n 0, 1) := by decide +kernel
theorem dX10_checksum_91 : decode cX10_checksum 91 = .ok (.getfield 37, 3) := by decide +kernel
theorem dX10_checksum_94 : decode cX10_checksum 94 = .ok (.invokevirtual 163, 3) := by decide +kernel
theorem dX10_checksum_97 : decode cX10_checksum 97 = .ok (.i2l, 1) := by decide +kernel
theorem dX10_checksum_98 : decode cX10_checksum 98 = .ok (.ladd, 1) := by decide +kernel
theorem dX10_checksum_99 : decode cX10_checksum 99 = .ok (.lreturn, 1) := by decide +kernel
theorem dX10_requireNumber_0 : decode cX10_requireNumber 0 = .ok (.iload_n 1, 1) := by decide +kernel
theorem dX10_requireNumber_1 : decode cX10_requireNumber 1 = .ok (.iconst 1, 1) := by decide +kernel
theorem dX10_requireNumber_2 : decode cX10_requireNumber 2 = .ok (.if_icmp .lt 14, 3) := by decide +kernel
theorem dX10_requireNumber_5 : decode cX10_requireNumber 5 = .ok (.iload_n 1, 1) := by decide +kernel
theorem dX10_requireNumber_6 : decode cX10_requireNumber 6 = .ok (.aload_n 0, 1) := by decide +kernel
theorem dX10_requireNumber_7 : decode cX10_requireNumber 7 = .ok (.getfield 74, 3) := by decide +kernel
theorem dX10_requireNumber_10 : decode cX10_requireNumber 10 = .ok (.getfield 118, 3) := by decide +kernel
theorem dX10_requireNumber_13 : decode cX10_requireNumber 13 = .ok (.if_icmp .le 14, 3) := by decide +kernel
theorem dX10_requireNumber_16 : decode cX10_requireNumber 16 = .ok (.new 124, 3) := by decide +kernel
theorem dX10_requireNumber_19 : decode cX10_requireNumber 19 = .ok (.dup, 1) := by decide +kernel
theorem dX10_requireNumber_20 : decode cX10_requireNumber 20 = .ok (.ldc_w 261, 3) := by decide +kernel
theorem dX10_requireNumber_23 : decode cX10_requireNumber 23 = .ok (.invokespecial 128, 3) := by decide +kernel
theorem dX10_requireNumber_26 : decode cX10_requireNumber 26 = .ok (.athrow, 1) := by decide +kernel
theorem dX10_requireNumber_27 : decode cX10_requireNumber 27 = .ok (.return_, 1) := by decide +kernel
theorem dX10_requireColour_0 : decode cX10_requireColour 0 = .ok (.iload_n 1, 1) := by decide +kernel
theorem dX10_requireColour_1 : decode cX10_requireColour 1 = .ok (.ifCond .lt 14, 3) := by decide +kernel
theorem dX10_requireColour_4 : decode cX10_requireColour 4 = .ok (.iload_n 1, 1) := by decide +kernel
theorem dX10_requireColour_5 : decode cX10_requireColour 5 = .ok (.aload_n 0, 1) := by decide +kernel
theorem dX10_requireColour_6 : decode cX10_requireColour 6 = .ok (.getfield 74, 3) := by decide +kernel
theorem dX10_requireColour_9 : decode cX10_requireColour 9 = .ok (.getfield 121, 3) := by decide +kernel
theorem dX10_requireColour_12 : decode cX10_requireColour 12 = .ok (.if_icmp .lt 14, 3) := by decide +kernel
theorem dX10_requireColour_15 : decode cX10_requireColour 15 = .ok (.new 124, 3) := by decide +kernel
theorem dX10_requireColour_18 : decode cX10_requireColour 18 = .ok (.dup, 1) := by decide +kernel
theorem dX10_requireColour_19 : decode cX10_requireColour 19 = .ok (.ldc_w 263, 3) := by decide +kernel
theorem dX10_requireColour_22 : decode cX10_requireColour 22 = .ok (.invokespecial 128, 3) := by decide +kernel
theorem dX10_requireColour_25 : decode cX10_requireColour 25 = .ok (.athrow, 1) := by decide +kernel
theorem dX10_requireColour_26 : decode cX10_requireColour 26 = .ok (.return_, 1) := by decide +kernel
set_option maxRecDepth 20000 in
theorem ggX10_requireColourOrNone_X10_requireColour : GoodIn wsX10_requireColourOrNone wsX10_requireColour := goodIn_ca (goodIn_r _ [5, 6, 7, 8, 9, 10, 11, 12, 13, 14, 15, 16, 17, 18, 19, 20, 21, 22, 23] (by decide +kernel) (by decide +kernel)) (goodIn_sub (fun _ h => List.mem_cons_of_mem _ (List.mem_append_right _ h)) (by decide +kernel))
set_option maxRecDepth 20000 in
theorem gX10_requireColourOrNone_X10_requireColour : GoodIn wsX10_requireColourOrNone (wsV RX10 234 RX10 yX10_requireColour wsX10_requireColour) := goodIn_app (goodIn_of _ (by decide +kernel)) ggX10_requireColourOrNone_X10_requireColour
theorem dX10_requireColourOrNone_0 : decode cX10_requireColourOrNone 0 = .ok (.iload_n 1, 1) := by decide +kernel
theorem dX10_requireColourOrNone_1 : decode cX10_requireColourOrNone 1 = .ok (.iconst (-1), 1) := by decide +kernel
theorem dX10_requireColourOrNone_2 : decode cX10_requireColourOrNone 2 = .ok (.if_icmp .eq 8, 3) := by decide +kernel
theorem dX10_requireColourOrNone_5 : decode cX10_requireColourOrNone 5 = .ok (.aload_n 0, 1) := by decide +kernel
theorem dX10_requireColourOrNone_6 : decode cX10_requireColourOrNone 6 = .ok (.iload_n 1, 1) := by decide +kernel
theorem dX10_requireColourOrNone_7 : decode cX10_requireColourOrNone 7 = .ok (.invokevirtual 234, 3) := by decide +kernel
theorem dX10_requireColourOrNone_10 : decode cX10_requireColourOrNone 10 = .ok (.return_, 1) := by decide +kernel
theorem dX10_requireTrials_0 : decode cX10_requireTrials 0 = .ok (.iload_n 1, 1) := by decide +kernel
theorem dX10_requireTrials_1 : decode cX10_requireTrials 1 = .ok (.iconst 1, 1) := by decide +kernel
theorem dX10_requireTrials_2 : decode cX10_requireTrials 2 = .ok (.if_icmp .lt 10, 3) := by decide +kernel
theorem dX10_requireTrials_5 : decode cX10_requireTrials 5 = .ok (.iload_n 1, 1) := by decide +kernel
theorem dX10_requireTrials_6 : decode cX10_requireTrials 6 = .ok (.sipush 3000, 3) := by decide +kernel
theorem dX10_requireTrials_9 : decode cX10_requireTrials 9 = .ok (.if_icmp .le 14, 3) := by decide +kernel
theorem dX10_requireTrials_12 : decode cX10_requireTrials 12 = .ok (.new 82, 3) := by decide +kernel
theorem dX10_requireTrials_15 : decode cX10_requireTrials 15 = .ok (.dup, 1) := by decide +kernel
theorem dX10_requireTrials_16 : decode cX10_requireTrials 16 = .ok (.ldc_w 265, 3) := by decide +kernel
theorem dX10_requireTrials_19 : decode cX10_requireTrials 19 = .ok (.invokespecial 86, 3) := by decide +kernel
theorem dX10_requireTrials_22 : decode cX10_requireTrials 22 = .ok (.athrow, 1) := by decide +kernel
theorem dX10_requireTrials_23 : decode cX10_requireTrials 23 = .ok (.return_, 1) := by decide +kernel
theorem dX10_limit_0 : decode cX10_limit 0 = .ok (.iload_n 2, 1) := by decide +kernel
theorem dX10_limit_1 : decode cX10_limit 1 = .ok (.i2l, 1) := by decide +kernel
theorem dX10_limit_2 : decode cX10_limit 2 = .ok (.iload_n 3, 1) := by decide +kernel
theorem dX10_limit_3 : decode cX10_limit 3 = .ok (.i2l, 1) := by decide +kernel
theorem dX10_limit_4 : decode cX10_limit 4 = .ok (.lload_n 0, 1) := by decide +kernel
theorem dX10_limit_5 : decode cX10_limit 5 = .ok (.invokestatic 267, 3) := by decide +kernel
theorem dX10_limit_8 : decode cX10_limit 8 = .ok (.invokestatic 273, 3) := by decide +kernel
theorem dX10_limit_11 : decode cX10_limit 11 = .ok (.l2i, 1) := by decide +kernel
theorem dX10_limit_12 : decode cX10_limit 12 = .ok (.ireturn, 1) := by decide +kernel
theorem dX11_init_0 : decode cX11_init 0 = .ok (.aload_n 0, 1) := by decide +kernel
theorem dX11_init_1 : decode cX11_init 1 = .ok (.invokespecial 3, 3) := by decide +kernel
theorem dX11_init_4 : decode cX11_init 4 = .ok (.aload_n 0, 1) := by decide +kernel
theorem dX11_init_5 : decode cX11_init 5 = .ok (.sipush 600, 3) := by decide +kernel
theorem dX11_init_8 : decode cX11_init 8 = .ok (.newarray .int, 2) := by decide +kernel
theorem dX11_init_10 : decode cX11_init 10 = .ok (.putfield 9, 3) := by decide +kernel
theorem dX11_init_13 : decode cX11_init 13 = .ok (.aload_n 0, 1) := by decide +kernel
theorem dX11_init_14 : decode cX11_init 14 = .ok (.iconst (-1), 1) := by decide +kernel
theorem dX11_init_15 : decode cX11_init 15 = .ok (.putfield 13, 3) := by decide +kernel
theorem dX11_init_18 : decode cX11_init 18 = .ok (.aload_n 0, 1) := by decide +kernel
theorem dX11_init_19 : decode cX11_init 19 = .ok (.sipush 1111, 3) := by decide +kernel
theorem dX11_init_22 : decode cX11_init 22 = .ok (.newarray .int, 2) := by decide +kernel
theorem dX11_init_24 : decode cX11_init 24 = .ok (.putfield 17, 3) := by decide +kernel
theorem dX11_init_27 : decode cX11_init 27 = .ok (.aload_n 0, 1) := by decide +kernel
theorem dX11_init_28 : decode cX11_init 28 = .ok (.sipush 1111, 3) := by decide +kernel
theorem dX11_init_31 : decode cX11_init 31 = .ok (.newarray .int, 2) := by decide +kernel
theorem dX11_init_33 : decode cX11_init 33 = .ok (.putfield 20, 3) := by decide +kernel
theorem dX11_init_36 : decode cX11_init 36 = .ok (.aload_n 0, 1) := by decide +kernel
theorem dX11_init_37 : decode cX11_init 37 = .ok (.sipush 1111, 3) := by decide +kernel
theorem dX11_init_40 : decode cX11_init 40 = .ok (.newarray .int, 2) := by decide +kernel
theorem dX11_init_42 : decode cX11_init 42 = .ok (.putfield 23, 3) := by decide +kernel
theorem dX11_init_45 : decode cX11_init 45 = .ok (.aload_n 0, 1) := by decide +kernel
theorem dX11_init_46 : decode cX11_init 46 = .ok (.bipush 8, 2) := by decide +kernel
theorem dX11_init_48 : decode cX11_init 48 = .ok (.sipush 1111, 3) := by decide +kernel
theorem dX11_init_51 : decode cX11_init 51 = .ok (.multianewarray 26 2, 4) := by decide +kernel
theorem dX11_init_55 : decode cX11_init 55 = .ok (.putfield 28, 3) := by decide +kernel
theorem dX11_init_58 : decode cX11_init 58 = .ok (.aload_n 0, 1) := by decide +kernel
theorem dX11_init_59 : decode cX11_init 59 = .ok (.ldc 31, 2) := by decide +kernel
theorem dX11_init_61 : decode cX11_init 61 = .ok (.newarray .int, 2) := by decide +kernel
theorem dX11_init_63 : decode cX11_init 63 = .ok (.putfield 32, 3) := by decide +kernel
theorem dX11_init_66 : decode cX11_init 66 = .ok (.aload_n 0, 1) := by decide +kernel
theorem dX11_init_67 : decode cX11_init 67 = .ok (.sipush 6400, 3) := by decide +kernel
theorem dX11_init_70 : decode cX11_init 70 = .ok (.newarray .int, 2) := by decide +kernel
theorem dX11_init_72 : decode cX11_init 72 = .ok (.putfield 35, 3) := by decide +kernel
theorem dX11_init_75 : decode cX11_init 75 = .ok (.aload_n 0, 1) := by decide +kernel
theorem dX11_init_76 : decode cX11_init 76 = .ok (.sipush 6400, 3) := by decide +kernel
theorem dX11_init_79 : decode cX11_init 79 = .ok (.newarray .int, 2) := by decide +kernel
theorem dX11_init_81 : decode cX11_init 81 = .ok (.putfield 38, 3) := by decide +kernel
theorem dX11_init_84 : decode cX11_init 84 = .ok (.aload_n 0, 1) := by decide +kernel
theorem dX11_init_85 : decode cX11_init 85 = .ok (.iconst 4, 1) := by decide +kernel
theorem dX11_init_86 : decode cX11_init 86 = .ok (.newarray .int, 2) := by decide +kernel
theorem dX11_init_88 : decode cX11_init 88 = .ok (.putfield 41, 3) := by decide +kernel
theorem dX11_init_91 : decode cX11_init 91 = .ok (.aload_n 0, 1) := by decide +kernel
theorem dX11_init_92 : decode cX11_init 92 = .ok (.bipush 42, 2) := by decide +kernel
theorem dX11_init_94 : decode cX11_init 94 = .ok (.newarray .int, 2) := by decide +kernel
theorem dX11_init_96 : decode cX11_init 96 = .ok (.putfield 44, 3) := by decide +kernel
theorem dX11_init_99 : decode cX11_init 99 = .ok (.aload_n 0, 1) := by decide +kernel
theorem dX11_init_100 : decode cX11_init 100 = .ok (.ldc 31, 2) := by decide +kernel
theorem dX11_init_102 : decode cX11_init 102 = .ok (.newarray .int, 2) := by decide +kernel
theorem dX11_init_104 : decode cX11_init 104 = .ok (.putfield 47, 3) := by decide +kernel
theorem dX11_init_107 : decode cX11_init 107 = .ok (.aload_n 0, 1) := by decide +kernel
theorem dX11_init_108 : decode cX11_init 108 = .ok (.sipush 1000, 3) := by decide +kernel
theorem dX11_init_111 : decode cX11_init 111 = .ok (.newarray .long, 2) := by decide +kernel
theorem dX11_init_113 : decode cX11_init 113 = .ok (.putfield 50, 3) := by decide +kernel
theorem dX11_init_116 : decode cX11_init 116 = .ok (.aload_n 0, 1) := by decide +kernel
theorem dX11_init_117 : decode cX11_init 117 = .ok (.bipush 40, 2) := by decide +kernel
theorem dX11_init_119 : decode cX11_init 119 = .ok (.newarray .int, 2) := by decide +kernel
theorem dX11_init_121 : decode cX11_init 121 = .ok (.putfield 54, 3) := by decide +kernel
theorem dX11_init_124 : decode cX11_init 124 = .ok (.return_, 1) := by decide +kernel
theorem dX11_thrown_0 : decode cX11_thrown 0 = .ok (.aload_n 0, 1) := by decide +kernel
theorem dX11_thrown_1 : decode cX11_thrown 1 = .ok (.getfield 57, 3) := by decide +kernel
theorem dX11_thrown_4 : decode cX11_thrown 4 = .ok (.ireturn, 1) := by decide +kernel
theorem dX11_fails_0 : decode cX11_fails 0 = .ok (.iload_n 1, 1) := by decide +kernel
theorem dX11_fails_1 : decode cX11_fails 1 = .ok (.ifCond .eq 15, 3) := by decide +kernel
theorem dX11_fails_4 : decode cX11_fails 4 = .ok (.aload_n 0, 1) := by decide +kernel
theorem dX11_fails_5 : decode cX11_fails 5 = .ok (.getfield 57, 3) := by decide +kernel
theorem dX11_fails_8 : decode cX11_fails 8 = .ok (.ifCond .ne 8, 3) := by decide +kernel
theorem dX11_fails_11 : decode cX11_fails 11 = .ok (.aload_n 0, 1) := by decide +kernel
theorem dX11_fails_12 : decode cX11_fails 12 = .ok (.iload_n 2, 1) := by decide +kernel
theorem dX11_fails_13 : decode cX11_fails 13 = .ok (.putfield 57, 3) := by decide +kernel
theorem dX11_fails_16 : decode cX11_fails 16 = .ok (.aload_n 0, 1) := by decide +kernel
theorem dX11_fails_17 : decode cX11_fails 17 = .ok (.getfield 57, 3) := by decide +kernel
theorem dX11_fails_20 : decode cX11_fails 20 = .ok (.ifCond .eq 7, 3) := by decide +kernel
theorem dX11_fails_23 : decode cX11_fails 23 = .ok (.iconst 1, 1) := by decide +kernel
theorem dX11_fails_24 : decode cX11_fails 24 = .ok (.goto 4, 3) := by decide +kernel
theorem dX11_fails_27 : decode cX11_fails 27 = .ok (.iconst 0, 1) := by decide +kernel
theorem dX11_fails_28 : decode cX11_fails 28 = .ok (.ireturn, 1) := by decide +kernel
theorem dX11_in_0 : decode cX11_in 0 = .ok (.iload_n 0, 1) := by decide +kernel
theorem dX11_in_1 : decode cX11_in 1 = .ok (.iload_n 1, 1) := by decide +kernel
theorem dX11_in_2 : decode cX11_in 2 = .ok (.if_icmp .lt 12, 3) := by decide +kernel
theorem dX11_in_5 : decode cX11_in 5 = .ok (.iload_n 0, 1) := by decide +kernel
theorem dX11_in_6 : decode cX11_in 6 = .ok (.iload_n 2, 1) := by decide +kernel
theorem dX11_in_7 : decode cX11_in 7 = .ok (.if_icmp .gt 7, 3) := by decide +kernel
theorem dX11_in_10 : decode cX11_in 10 = .ok (.iconst 1, 1) := by decide +kernel
theorem dX11_in_11 : decode cX11_in 11 = .ok (.goto 4, 3) := by decide +kernel
theorem dX11_in_14 : decode cX11_in 14 = .ok (.iconst 0, 1) := by decide +kernel
theorem dX11_in_15 : decode cX11_in 15 = .ok (.ireturn, 1) := by decide +kernel
theorem dX11_min_0 : decode cX11_min 0 = .ok (.iload_n 0, 1) := by decide +kernel
theorem dX11_min_1 : decode cX11_min 1 = .ok (.iload_n 1, 1) := by decide +kernel
theorem dX11_min_2 : decode cX11_min 2 = .ok (.if_icmp .ge 7, 3) := by decide +kernel
theorem dX11_min_5 : decode cX11_min 5 = .ok (.iload_n 0, 1) := by decide +kernel
theorem dX11_min_6 : decode cX11_min 6 = .ok (.goto 4, 3) := by decide +kernel
theorem dX11_min_9 : decode cX11_min 9 = .ok (.iload_n 1, 1) := by decide +kernel
theorem dX11_min_10 : decode cX11_min 10 = .ok (.ireturn, 1) := by decide +kernel
theorem dX11_max_0 : decode cX11_max 0 = .ok (.iload_n 0, 1) := by decide +kernel
theorem dX11_max_1 : decode cX11_max 1 = .ok (.iload_n 1, 1) := by decide +kernel
theorem dX11_max_2 : decode cX11_max 2 = .ok (.if_icmp .le 7, 3) := by decide +kernel
theorem dX11_max_5 : decode cX11_max 5 = .ok (.iload_n 0, 1) := by decide +kernel
theorem dX11_max_6 : decode cX11_max 6 = .ok (.goto 4, 3) := by decide +kernel
theorem dX11_max_9 : decode cX11_max 9 = .ok (.iload_n 1, 1) := by decide +kernel
theorem dX11_max_10 : decode cX11_max 10 = .ok (.ireturn, 1) := by decide +kernel
theorem dX11_copy_0 : decode cX11_copy 0 = .ok (.iconst 0, 1) := by decide +kernel
theorem dX11_copy_1 : decode cX11_copy 1 = .ok (.istore_n 2, 1) := by decide +kernel
theorem dX11_copy_2 : decode cX11_copy 2 = .ok (.iload_n 2, 1) := by decide +kernel
theorem dX11_copy_3 : decode cX11_copy 3 = .ok (.sipush 1111, 3) := by decide +kernel
theorem dX11_copy_6 : decode cX11_copy 6 = .ok (.if_icmp .ge 15, 3) := by decide +kernel
theorem dX11_copy_9 : decode cX11_copy 9 = .ok (.aload_n 1, 1) := by decide +kernel
theorem dX11_copy_10 : decode cX11_copy 10 = .ok (.iload_n 2, 1) := by decide +kernel
theorem dX11_copy_11 : decode cX11_copy 11 = .ok (.aload_n 0, 1) := by decide +kernel
theorem dX11_copy_12 : decode cX11_copy 12 = .ok (.iload_n 2, 1) := by decide +kernel
theorem dX11_copy_13 : decode cX11_copy 13 = .ok (.iaload, 1) := by decide +kernel
theorem dX11_copy_14 : decode cX11_copy 14 = .ok (.iastore, 1) := by decide +kernel
theorem dX11_copy_15 : decode cX11_copy 15 = .ok (.iinc 2 1, 3) := by decide +kernel
theorem dX11_copy_18 : decode cX11_copy 18 = .ok (.goto (-16), 3) := by decide +kernel
theorem dX11_copy_21 : decode cX11_copy 21 = .ok (.return_, 1) := by decide +kernel
theorem dX11_rule_0 : decode cX11_rule 0 = .ok (.iconst 5, 1) := by decide +kernel
theorem dX11_rule_1 : decode cX11_rule 1 = .ok (.bipush 6, 2) := by decide +kernel
theorem dX11_rule_3 : decode cX11_rule 3 = .ok (.iload_n 0, 1) := by decide +kernel
theorem dX11_rule_4 : decode cX11_rule 4 = .ok (.imul, 1) := by decide +kernel
theorem dX11_rule_5 : decode cX11_rule 5 = .ok (.iadd, 1) := by decide +kernel
theorem dX11_rule_6 : decode cX11_rule 6 = .ok (.ireturn, 1) := by decide +kernel
theorem dX11_append_0 : decode cX11_append 0 = .ok (.aload_n 0, 1) := by decide +kernel
theorem dX11_append_1 : decode cX11_append 1 = .ok (.iconst 0, 1) := by decide +kernel
theorem dX11_append_2 : decode cX11_append 2 = .ok (.putfield 57, 3) := by decide +kernel
theorem dX11_append_5 : decode cX11_append 5 = .ok (.aload_n 0, 1) := by decide +kernel
theorem dX11_append_6 : decode cX11_append 6 = .ok (.getfield 60, 3) := by decide +kernel
theorem dX11_append_9 : decode cX11_append 9 = .ok (.bipush 20, 2) := by decide +kernel
theorem dX11_append_11 : decode cX11_append 11 = .ok (.iadd, 1) := by decide +kernel
theorem dX11_append_12 : decode cX11_append 12 = .ok (.sipush 600, 3) := by decide +kernel
theorem dX11_append_15 : decode cX11_append 15 = .ok (.if_icmp .le 5, 3) := by decide +kernel
theorem dX11_append_18 : decode cX11_append 18 = .ok (.iconst (-1), 1) := by decide +kernel
theorem dX11_append_19 : decode cX11_append 19 = .ok (.ireturn, 1) := by decide +kernel
theorem dX11_append_20 : decode cX11_append 20 = .ok (.iconst 0, 1) := by decide +kernel
theorem dX11_append_21 : decode cX11_append 21 = .ok (.istore 6, 2) := by decide +kernel
theorem dX11_append_23 : decode cX11_append 23 = .ok (.iload 6, 2) := by decide +kernel
theorem dX11_append_25 : decode cX11_append 25 = .ok (.bipush 20, 2) := by decide +kernel
theorem dX11_append_27 : decode cX11_append 27 = .ok (.if_icmp .ge 93, 3) := by decide +kernel
theorem dX11_append_30 : decode cX11_append 30 = .ok (.iload 6, 2) := by decide +kernel
theorem dX11_append_32 : decode cX11_append 32 = .ok (.iconst 4, 1) := by decide +kernel
theorem dX11_append_33 : decode cX11_append 33 = .ok (.if_icmp .ge 7, 3) := by decide +kernel
theorem dX11_append_36 : decode cX11_append 36 = .ok (.iload_n 1, 1) := by decide +kernel
theorem dX11_append_37 : decode cX11_append 37 = .ok (.goto 39, 3) := by decide +kernel
theorem dX11_append_40 : decode cX11_append 40 = .ok (.iload 6, 2) := by decide +kernel
theorem dX11_append_42 : decode cX11_append 42 = .ok (.bipush 8, 2) := by decide +kernel
theorem dX11_append_44 : decode cX11_append 44 = .ok (.if_icmp .ge 7, 3) := by decide +kernel
theorem dX11_append_47 : decode cX11_append 47 = .ok (.iload_n 2, 1) := by decide +kernel
theorem dX11_append_48 : decode cX11_append 48 = .ok (.goto 28, 3) := by decide +kernel
theorem dX11_append_51 : decode cX11_append 51 = .ok (.iload 6, 2) := by decide +kernel
theorem dX11_append_53 : decode cX11_append 53 = .ok (.bipush 12, 2) := by decide +kernel
theorem dX11_append_55 : decode cX11_append 55 = .ok (.if_icmp .ge 7, 3) := by decide +kernel
theorem dX11_append_58 : decode cX11_append 58 = .ok (.iload_n 3, 1) := by decide +kernel
theorem dX11_append_59 : decode cX11_append 59 = .ok (.goto 17, 3) := by decide +kernel
theorem dX11_append_62 : decode cX11_append 62 = .ok (.iload 6, 2) := by decide +kernel
theorem dX11_append_64 : decode cX11_append 64 = .ok (.bipush 16, 2) := by decide +kernel
theorem dX11_append_66 : decode cX11_append 66 = .ok (.if_icmp .ge 8, 3) := by decide +kernel
theorem dX11_append_69 : decode cX11_append 69 = .ok (.iload 4, 2) := by decide +kernel
theorem dX11_append_71 : decode cX11_append 71 = .ok (.goto 5, 3) := by decide +kernel
theorem dX11_append_74 : decode cX11_append 74 = .ok (.iload 5, 2) := by decide +kernel
theorem dX11_append_76 : decode cX11_append 76 = .ok (.istore 7, 2) := by decide +kernel
theorem dX11_append_78 : decode cX11_append 78 = .ok (.aload_n 0, 1) := by decide +kernel
theorem dX11_append_79 : decode cX11_append 79 = .ok (.getfield 9, 3) := by decide +kernel
theorem dX11_append_82 : decode cX11_append 82 = .ok (.aload_n 0, 1) := by decide +kernel
theorem dX11_append_83 : decode cX11_append 83 = .ok (.getfield 60, 3) := by decide +kernel
theorem dX11_append_86 : decode cX11_append 86 = .ok (.iload 7, 2) := by decide +kernel
theorem dX11_append_88 : decode cX11_append 88 = .ok (.bipush 24, 2) := by decide +kernel
theorem dX11_append_90 : decode cX11_append 90 = .ok (.bipush 8, 2) := by decide +kernel
theorem dX11_append_92 : decode cX11_append 92 = .ok (.iload 6, 2) := by decide +kernel
theorem dX11_append_94 : decode cX11_append 94 = .ok (.iconst 4, 1) := by decide +kernel
theorem dX11_append_95 : decode cX11_append 95 = .ok (.irem, 1) := by decide +kernel
theorem dX11_append_96 : decode cX11_append 96 = .ok (.imul, 1) := by decide +kernel
theorem dX11_append_97 : decode cX11_append 97 = .ok (.isub, 1) := by decide +kernel
theorem dX11_append_98 : decode cX11_append 98 = .ok (.ishr, 1) := by decide +kernel
theorem dX11_append_99 : decode cX11_append 99 = .ok (.sipush 255, 3) := by decide +kernel
theorem dX11_append_102 : decode cX11_append 102 = .ok (.iand, 1) := by decide +kernel
theorem dX11_append_103 : decode cX11_append 103 = .ok (.iastore, 1) := by decide +kernel
theorem dX11_append_104 : decode cX11_append 104 = .ok (.aload_n 0, 1) := by decide +kernel
theorem dX11_append_105 : decode cX11_append 105 = .ok (.dup, 1) := by decide +kernel
theorem dX11_append_106 : decode cX11_append 106 = .ok (.getfield 60, 3) := by decide +kernel
theorem dX11_append_109 : decode cX11_append 109 = .ok (.iconst 1, 1) := by decide +kernel
theorem dX11_append_110 : decode cX11_append 110 = .ok (.iadd, 1) := by decide +kernel
theorem dX11_append_111 : decode cX11_append 111 = .ok (.putfield 60, 3) := by decide +kernel
theorem dX11_append_114 : decode cX11_append 114 = .ok (.iinc 6 1, 3) := by decide +kernel
theorem dX11_append_117 : decode cX11_append 117 = .ok (.goto (-94), 3) := by decide +kernel
theorem dX11_append_120 : decode cX11_append 120 = .ok (.aload_n 0, 1) := by decide +kernel
theorem dX11_append_121 : decode cX11_append 121 = .ok (.getfield 60, 3) := by decide +kernel
theorem dX11_append_124 : decode cX11_append 124 = .ok (.ireturn, 1) := by decide +kernel
theorem dX11_byteAt_0 : decode cX11_byteAt 0 = .ok (.iload_n 1, 1) := by decide +kernel
theorem dX11_byteAt_1 : decode cX11_byteAt 1 = .ok (.aload_n 0, 1) := by decide +kernel
theorem dX11_byteAt_2 : decode cX11_byteAt 2 = .ok (.getfield 63, 3) := by decide +kernel
theorem dX11_byteAt_5 : decode cX11_byteAt 5 = .ok (.if_icmp .ge 12, 3) := by decide +kernel
theorem dX11_byteAt_8 : decode cX11_byteAt 8 = .ok (.aload_n 0, 1) := by decide +kernel
theorem dX11_byteAt_9 : decode cX11_byteAt 9 = .ok (.getfield 9, 3) := by decide +kernel
theorem dX11_byteAt_12 : decode cX11_byteAt 12 = .ok (.iload_n 1, 1) := by decide +kernel
theorem dX11_byteAt_13 : decode cX11_byteAt 13 = .ok (.iaload, 1) := by decide +kernel
theorem dX11_byteAt_14 : decode cX11_byteAt 14 = .ok (.goto 4, 3) := by decide +kernel
theorem dX11_byteAt_17 : decode cX11_byteAt 17 = .ok (.iconst (-1), 1) := by decide +kernel
theorem dX11_byteAt_18 : decode cX11_byteAt 18 = .ok (.ireturn, 1) := by decide +kernel
set_option maxRecDepth 20000 in
theorem ggX11_next_X11_byteAt : GoodIn wsX11_next wsX11_byteAt := goodIn_r _ [6, 7, 8, 9, 10, 11, 12, 13, 14, 15, 16, 17, 18, 19, 20, 21, 22, 23, 24, 25, 26, 27, 28, 29, 30, 31, 32, 33, 34, 35, 36] (by decide +kernel) (by decide +kernel)
set_option maxRecDepth 20000 in
theorem gX11_next_X11_byteAt : GoodIn wsX11_next (wsV RX11 69 RX11 yX11_byteAt wsX11_byteAt) := goodIn_app (goodIn_of _ (by decide +kernel)) ggX11_next_X11_byteAt
theorem dX11_next_0 : decode cX11_next 0 = .ok (.aload_n 0, 1) := by decide +kernel
theorem dX11_next_1 : decode cX11_next 1 = .ok (.aload_n 0, 1) := by decide +kernel
theorem dX11_next_2 : decode cX11_next 2 = .ok (.getfield 66, 3) := by decide +kernel
theorem dX11_next_5 : decode cX11_next 5 = .ok (.invokevirtual 69, 3) := by decide +kernel
theorem dX11_next_8 : decode cX11_next 8 = .ok (.bipush 32, 2) := by decide +kernel
theorem dX11_next_10 : decode cX11_next 10 = .ok (.if_icmp .ne 16, 3) := by decide +kernel
theorem dX11_next_13 : decode cX11_next 13 = .ok (.aload_n 0, 1) := by decide +kernel
theorem dX11_next_14 : decode cX11_next 14 = .ok (.dup, 1) := by decide +kernel
theorem dX11_next_15 : decode cX11_next 15 = .ok (.getfield 66, 3) := by decide +kernel
theorem dX11_next_18 : decode cX11_next 18 = .ok (.iconst 1, 1) := by decide +kernel
theorem dX11_next_19 : decode cX11_next 19 = .ok (.iadd, 1) := by decide +kernel
theorem dX11_next_20 : decode cX11_next 20 = .ok (.putfield 66, 3) := by decide +kernel
theorem dX11_next_23 : decode cX11_next 23 = .ok (.goto (-23), 3) := by decide +kernel
theorem dX11_next_26 : decode cX11_next 26 = .ok (.aload_n 0, 1) := by decide +kernel
theorem dX11_next_27 : decode cX11_next 27 = .ok (.aload_n 0, 1) := by decide +kernel
theorem dX11_next_28 : decode cX11_next 28 = .ok (.getfield 66, 3) := by decide +kernel
theorem dX11_next_31 : decode cX11_next 31 = .ok (.invokevirtual 69, 3) := by decide +kernel
theorem dX11_next_34 : decode cX11_next 34 = .ok (.ireturn, 1) := by decide +kernel
theorem dX11_isGood_0 : decode cX11_isGood 0 = .ok (.aload_n 0, 1) := by decide +kernel
theorem dX11_isGood_1 : decode cX11_isGood 1 = .ok (.getfield 73, 3) := by decide +kernel
theorem dX11_isGood_4 : decode cX11_isGood 4 = .ok (.ifCond .ne 7, 3) := by decide +kernel
theorem dX11_isGood_7 : decode cX11_isGood 7 = .ok (.iconst 1, 1) := by decide +kernel
theorem dX11_isGood_8 : decode cX11_isGood 8 = .ok (.goto 4, 3) := by decide +kernel
theorem dX11_isGood_11 : decode cX11_isGood 11 = .ok (.iconst 0, 1) := by decide +kernel
theorem dX11_isGood_12 : decode cX11_isGood 12 = .ok (.ireturn, 1) := by decide +kernel
theorem dX11_report_0 : decode cX11_report 0 = .ok (.aload_n 0, 1) := by decide +kernel
theorem dX11_report_1 : decode cX11_report 1 = .ok (.getfield 73, 3) := by decide +kernel
theorem dX11_report_4 : decode cX11_report 4 = .ok (.ifCond .eq 4, 3) := by decide +kernel
theorem dX11_report_7 : decode cX11_report 7 = .ok (.return_, 1) := by decide +kernel
theorem dX11_report_8 : decode cX11_report 8 = .ok (.aload_n 0, 1) := by decide +kernel
theorem dX11_report_9 : decode cX11_report 9 = .ok (.iload_n 1, 1) := by decide +kernel
theorem dX11_report_10 : decode cX11_report 10 = .ok (.putfield 73, 3) := by decide +kernel
theorem dX11_report_13 : decode cX11_report 13 = .ok (.aload_n 0, 1) := by decide +kernel
theorem dX11_report_14 : decode cX11_report 14 = .ok (.iload_n 2, 1) := by decide +kernel
theorem dX11_report_15 : decode cX11_report 15 = .ok (.putfield 76, 3) := by decide +kernel
theorem dX11_report_18 : decode cX11_report 18 = .ok (.return_, 1) := by decide +kernel
set_option maxRecDepth 20000 in
theorem ggX11_isDigit_X11_in : GoodIn wsX11_isDigit wsX11_in := goodIn_r _ [4] (by decide +kernel) (by decide +kernel)
set_option maxRecDepth 20000 in
theorem gX11_isDigit_X11_in : GoodIn wsX11_isDigit (va_wsS RX11 79 yX11_in wsX11_in) := goodIn_app (goodIn_of _ (by decide +kernel)) ggX11_isDigit_X11_in
theorem dX11_isDigit_0 : decode cX11_isDigit 0 = .ok (.iload_n 0, 1) := by decide +kernel
theorem dX11_isDigit_1 : decode cX11_isDigit 1 = .ok (.bipush 48, 2) := by decide +kernel
theorem dX11_isDigit_3 : decode cX11_isDigit 3 = .ok (.bipush 57, 2) := by decide +kernel
theorem dX11_isDigit_5 : decode cX11_isDigit 5 = .ok (.invokestatic 79, 3) := by decide +kernel
theorem dX11_isDigit_8 : decode cX11_isDigit 8 = .ok (.ireturn, 1) := by decide +kernel
set_option maxRecDepth 20000 in
theorem ggX11_takeWord_X11_isGood : GoodIn wsX11_takeWord wsX11_isGood := goodIn_r _ [6, 7, 70, 71, 72, 73, 74, 75, 76, 77, 78, 79, 80, 81, 82, 83, 84, 85, 86, 87, 88, 89, 90, 91, 92, 93, 94, 95, 96, 97] (by decide +kernel) (by decide +kernel)
set_option maxRecDepth 20000 in
theorem gX11_takeWord_X11_isGood : GoodIn wsX11_takeWord (wsV RX11 83 RX11 yX11_isGood wsX11_isGood) := goodIn_app (goodIn_of _ (by decide +kernel)) ggX11_takeWord_X11_isGood
set_option maxRecDepth 20000 in
theorem ggX11_takeWord_X11_next : GoodIn wsX11_takeWord wsX11_next := goodIn_r _ [11, 1, 12, 13, 14, 5, 15, 16, 17, 70, 71, 72, 73, 74, 75, 76, 77, 78, 79, 80, 81, 82, 83, 84, 85, 86, 87, 88, 89, 90, 91, 92, 93, 94, 95, 96, 97] (by decide +kernel) (by decide +kernel)
set_option maxRecDepth 20000 in
theorem gX11_takeWord_X11_next : GoodIn wsX11_takeWord (wsV RX11 87 RX11 yX11_next wsX11_next) := goodIn_app (goodIn_of _ (by decide +kernel)) ggX11_takeWord_X11_next
set_option maxRecDepth 20000 in
theorem ggX11_takeWord_J0_length_8abf5 : GoodIn wsX11_takeWord wsJ0_length_8abf5 := goodIn_r _ [22, 23, 24, 25, 26, 21, 27, 28, 29] (by decide +kernel) (by decide +kernel)
set_option maxRecDepth 20000 in
theorem gX11_takeWord_J0_length_8abf5 : GoodIn wsX11_takeWord (wsV RX11 91 RJ0 yJ0_length_8abf5 wsJ0_length_8abf5) := goodIn_app (goodIn_of _ (by decide +kernel)) ggX11_takeWord_J0_length_8abf5
set_option maxRecDepth 20000 in
theorem ggX11_takeWord_X11_byteAt : GoodIn wsX11_takeWord wsX11_byteAt := goodIn_r _ [15, 16, 17, 70, 71, 72, 73, 74, 75, 76, 77, 78, 79, 80, 81, 82, 83, 84, 85, 86, 87, 88, 89, 90, 91, 92, 93, 94, 95, 96, 97] (by decide +kernel) (by decide +kernel)
set_option maxRecDepth 20000 in
theorem gX11_takeWord_X11_byteAt : GoodIn wsX11_takeWord (wsV RX11 69 RX11 yX11_byteAt wsX11_byteAt) := goodIn_app (goodIn_of _ (by decide +kernel)) ggX11_takeWord_X11_byteAt
set_option maxRecDepth 20000 in
theorem ggX11_takeWord_J0_charAt_5068e : GoodIn wsX11_takeWord wsJ0_charAt_5068e := goodIn_r _ [33, 23, 34, 35, 36, 21, 37, 28, 29, 38, 39, 40, 41, 42, 43, 44, 45, 46, 47, 48, 49, 50, 51, 52, 53, 54, 55, 56, 57, 58, 59, 60, 61, 62, 63, 64, 65, 66] (by decide +kernel) (by decide +kernel)
set_option maxRecDepth 20000 in
theorem gX11_takeWord_J0_charAt_5068e : GoodIn wsX11_takeWord (wsV RX11 96 RJ0 yJ0_charAt_5068e wsJ0_charAt_5068e) := goodIn_app (goodIn_of _ (by decide +kernel)) ggX11_takeWord_J0_charAt_5068e
set_option maxRecDepth 20000 in
theorem ggX11_takeWord_X11_in : GoodIn wsX11_takeWord wsX11_in := goodIn_r _ [69] (by decide +kernel) (by decide +kernel)
set_option maxRecDepth 20000 in
theorem gX11_takeWord_X11_in : GoodIn wsX11_takeWord (va_wsS RX11 79 yX11_in wsX11_in) := goodIn_app (goodIn_of _ (by decide +kernel)) ggX11_takeWord_X11_in
theorem dX11_takeWord_0 : decode cX11_takeWord 0 = .ok (.aload_n 0, 1) := by decide +kernel
theorem dX11_takeWord_1 : decode cX11_takeWord 1 = .ok (.invokevirtual 83, 3) := by decide +kernel
theorem dX11_takeWord_4 : decode cX11_takeWord 4 = .ok (.ifCond .ne 5, 3) := by decide +kernel
theorem dX11_takeWord_7 : decode cX11_takeWord 7 = .ok (.iconst 0, 1) := by decide +kernel
theorem dX11_takeWord_8 : decode cX11_takeWord 8 = .ok (.ireturn, 1) := by decide +kernel
theorem dX11_takeWord_9 : decode cX11_takeWord 9 = .ok (.aload_n 0, 1) := by decide +kernel
theorem dX11_takeWord_10 : decode cX11_takeWord 10 = .ok (.invokevirtual 87, 3) := by decide +kernel
theorem dX11_takeWord_13 : decode cX11_takeWord 13 = .ok (.pop, 1) := by decide +kernel
theorem dX11_takeWord_14 : decode cX11_takeWord 14 = .ok (.iconst 0, 1) := by decide +kernel
theorem dX11_takeWord_15 : decode cX11_takeWord 15 = .ok (.istore_n 2, 1) := by decide +kernel
theorem dX11_takeWord_16 : decode cX11_takeWord 16 = .ok (.iload_n 2, 1) := by decide +kernel
theorem dX11_takeWord_17 : decode cX11_takeWord 17 = .ok (.aload_n 1, 1) := by decide +kernel
theorem dX11_takeWord_18 : decode cX11_takeWord 18 = .ok (.invokevirtual 91, 3) := by decide +kernel
theorem dX11_takeWord_21 : decode cX11_takeWord 21 = .ok (.if_icmp .ge 27, 3) := by decide +kernel
theorem dX11_takeWord_24 : decode cX11_takeWord 24 = .ok (.aload_n 0, 1) := by decide +kernel
theorem dX11_takeWord_25 : decode cX11_takeWord 25 = .ok (.aload_n 0, 1) := by decide +kernel
theorem dX11_takeWord_26 : decode cX11_takeWord 26 = .ok (.getfield 66, 3) := by decide +kernel
theorem dX11_takeWord_29 : decode cX11_takeWord 29 = .ok (.iload_n 2, 1) := by decide +kernel
theorem dX11_takeWord_30 : decode cX11_takeWord 30 = .ok (.iadd, 1) := by decide +kernel
theorem dX11_takeWord_31 : decode cX11_takeWord 31 = .ok (.invokevirtual 69, 3) := by decide +kernel
theorem dX11_takeWord_34 : decode cX11_takeWord 34 = .ok (.aload_n 1, 1) := by decide +kernel
theorem dX11_takeWord_35 : decode cX11_takeWord 35 = .ok (.iload_n 2, 1) := by decide +kernel
theorem dX11_takeWord_36 : decode cX11_takeWord 36 = .ok (.invokevirtual 96, 3) := by decide +kernel
theorem dX11_takeWord_39 : decode cX11_takeWord 39 = .ok (.if_icmp .ne 9, 3) := by decide +kernel
theorem dX11_takeWord_42 : decode cX11_takeWord 42 = .ok (.iinc 2 1, 3) := by decide +kernel
theorem dX11_takeWord_45 : decode cX11_takeWord 45 = .ok (.goto (-29), 3) := by decide +kernel
theorem dX11_takeWord_48 : decode cX11_takeWord 48 = .ok (.iload_n 2, 1) := by decide +kernel
theorem dX11_takeWord_49 : decode cX11_takeWord 49 = .ok (.aload_n 1, 1) := by decide +kernel
theorem dX11_takeWord_50 : decode cX11_takeWord 50 = .ok (.invokevirtual 91, 3) := by decide +kernel
theorem dX11_takeWord_53 : decode cX11_takeWord 53 = .ok (.if_icmp .lt 23, 3) := by decide +kernel
theorem dX11_takeWord_56 : decode cX11_takeWord 56 = .ok (.aload_n 0, 1) := by decide +kernel
theorem dX11_takeWord_57 : decode cX11_takeWord 57 = .ok (.aload_n 0, 1) := by decide +kernel
theorem dX11_takeWord_58 : decode cX11_takeWord 58 = .ok (.getfield 66, 3) := by decide +kernel
theorem dX11_takeWord_61 : decode cX11_takeWord 61 = .ok (.iload_n 2, 1) := by decide +kernel
theorem dX11_takeWord_62 : decode cX11_takeWord 62 = .ok (.iadd, 1) := by decide +kernel
theorem dX11_takeWord_63 : decode cX11_takeWord 63 = .ok (.invokevirtual 69, 3) := by decide +kernel
theorem dX11_takeWord_66 : decode cX11_takeWord 66 = .ok (.bipush 97, 2) := by decide +kernel
theorem dX11_takeWord_68 : decode cX11_takeWord 68 = .ok (.bipush 122, 2) := by decide +kernel
theorem dX11_takeWord_70 : decode cX11_takeWord 70 = .ok (.invokestatic 79, 3) := by decide +kernel
theorem dX11_takeWord_73 : decode cX11_takeWord 73 = .ok (.ifCond .eq 5, 3) := by decide +kernel
theorem dX11_takeWord_76 : decode cX11_takeWord 76 = .ok (.iconst 0, 1) := by decide +kernel
theorem dX11_takeWord_77 : decode cX11_takeWord 77 = .ok (.ireturn, 1) := by decide +kernel
theorem dX11_takeWord_78 : decode cX11_takeWord 78 = .ok (.aload_n 0, 1) := by decide +kernel
theorem dX11_takeWord_79 : decode cX11_takeWord 79 = .ok (.dup, 1) := by decide +kernel
theorem dX11_takeWord_80 : decode cX11_takeWord 80 = .ok (.getfield 66, 3) := by decide +kernel
theorem dX11_takeWord_83 : decode cX11_takeWord 83 = .ok (.iload_n 2, 1) := by decide +kernel
theorem dX11_takeWord_84 : decode cX11_takeWord 84 = .ok (.iadd, 1) := by decide +kernel
theorem dX11_takeWord_85 : decode cX11_takeWord 85 = .ok (.putfield 66, 3) := by decide +kernel
theorem dX11_takeWord_88 : decode cX11_takeWord 88 = .ok (.iconst 1, 1) := by decide +kernel
theorem dX11_takeWord_89 : decode cX11_takeWord 89 = .ok (.ireturn, 1) := by decide +kernel
set_option maxRecDepth 20000 in
theorem ggX11_expect_X11_isGood : GoodIn wsX11_expect wsX11_isGood := goodIn_r _ [6, 7, 23, 24, 25, 26, 27, 28, 29, 30, 31, 32, 33, 34, 35, 36, 37, 38, 39, 40, 41, 42, 43, 44, 45, 46, 47, 48, 49, 50] (by decide +kernel) (by decide +kernel)
set_option maxRecDepth 20000 in
theorem gX11_expect_X11_isGood : GoodIn wsX11_expect (wsV RX11 83 RX11 yX11_isGood wsX11_isGood) := goodIn_app (goodIn_of _ (by decide +kernel)) ggX11_expect_X11_isGood
set_option maxRecDepth 20000 in
theorem ggX11_expect_X11_next : GoodIn wsX11_expect wsX11_next := goodIn_r _ [11, 1, 12, 13, 14, 5, 15, 16, 17, 23, 24, 25, 26, 27, 28, 29, 30, 31, 32, 33, 34, 35, 36, 37, 38, 39, 40, 41, 42, 43, 44, 45, 46, 47, 48, 49, 50] (by decide +kernel) (by decide +kernel)
set_option maxRecDepth 20000 in
theorem gX11_expect_X11_next : GoodIn wsX11_expect (wsV RX11 87 RX11 yX11_next wsX11_next) := goodIn_app (goodIn_of _ (by decide +kernel)) ggX11_expect_X11_next
set_option maxRecDepth 20000 in
theorem ggX11_expect_X11_report : GoodIn wsX11_expect wsX11_report := goodIn_r _ [21, 7, 22, 23, 24, 25, 26, 27, 28, 29, 30, 31, 32, 33, 34, 35, 36, 37, 38, 39, 40, 41, 42, 43, 44, 45, 46, 47, 48, 49, 50] (by decide +kernel) (by decide +kernel)
set_option maxRecDepth 20000 in
theorem gX11_expect_X11_report : GoodIn wsX11_expect (wsV RX11 100 RX11 yX11_report wsX11_report) := goodIn_app (goodIn_of _ (by decide +kernel)) ggX11_expect_X11_report
theorem dX11_expect_0 : decode cX11_expect 0 = .ok (.aload_n 0, 1) := by decide +kernel
theorem dX11_expect_1 : decode cX11_expect 1 = .ok (.invokevirtual 83, 3) := by decide +kernel
theorem dX11_expect_4 : decode cX11_expect 4 = .ok (.ifCond .ne 4, 3) := by decide +kernel
theorem dX11_expect_7 : decode cX11_expect 7 = .ok (.return_, 1) := by decide +kernel
theorem dX11_expect_8 : decode cX11_expect 8 = .ok (.aload_n 0, 1) := by decide +kernel
theorem dX11_expect_9 : decode cX11_expect 9 = .ok (.invokevirtual 87, 3) := by decide +kernel
theorem dX11_expect_12 : decode cX11_expect 12 = .ok (.iload_n 1, 1) := by decide +kernel
theorem dX11_expect_13 : decode cX11_expect 13 = .ok (.if_icmp .ne 16, 3) := by decide +kernel
theorem dX11_expect_16 : decode cX11_expect 16 = .ok (.aload_n 0, 1) := by decide +kernel
theorem dX11_expect_17 : decode cX11_expect 17 = .ok (.dup, 1) := by decide +kernel
theorem dX11_expect_18 : decode cX11_expect 18 = .ok (.getfield 66, 3) := by decide +kernel
theorem dX11_expect_21 : decode cX11_expect 21 = .ok (.iconst 1, 1) := by decide +kernel
theorem dX11_expect_22 : decode cX11_expect 22 = .ok (.iadd, 1) := by decide +kernel
theorem dX11_expect_23 : decode cX11_expect 23 = .ok (.putfield 66, 3) := by decide +kernel
theorem dX11_expect_26 : decode cX11_expect 26 = .ok (.goto 13, 3) := by decide +kernel
theorem dX11_expect_29 : decode cX11_expect 29 = .ok (.aload_n 0, 1) := by decide +kernel
theorem dX11_expect_30 : decode cX11_expect 30 = .ok (.bipush (-2), 2) := by decide +kernel
theorem dX11_expect_32 : decode cX11_expect 32 = .ok (.aload_n 0, 1) := by decide +kernel
theorem dX11_expect_33 : decode cX11_expect 33 = .ok (.getfield 66, 3) := by decide +kernel
theorem dX11_expect_36 : decode cX11_expect 36 = .ok (.invokevirtual 100, 3) := by decide +kernel
theorem dX11_expect_39 : decode cX11_expect 39 = .ok (.return_, 1) := by decide +kernel
set_option maxRecDepth 20000 in
theorem ggX11_number_X11_isGood : GoodIn wsX11_number wsX11_isGood := goodIn_r _ [7, 8, 33, 34, 35, 36, 37, 38, 39, 40, 41, 42, 43, 44, 45, 46, 47, 48, 49, 50, 51, 52, 53, 54, 55, 56, 57, 58, 59, 60] (by decide +kernel) (by decide +kernel)
set_option maxRecDepth 20000 in
theorem gX11_number_X11_isGood : GoodIn wsX11_number (wsV RX11 83 RX11 yX11_isGood wsX11_isGood) := goodIn_app (goodIn_of _ (by decide +kernel)) ggX11_number_X11_isGood
set_option maxRecDepth 20000 in
theorem ggX11_number_X11_next : GoodIn wsX11_number wsX11_next := goodIn_r _ [12, 1, 13, 14, 15, 6, 16, 17, 18, 33, 34, 35, 36, 37, 38, 39, 40, 41, 42, 43, 44, 45, 46, 47, 48, 49, 50, 51, 52, 53, 54, 55, 56, 57, 58, 59, 60] (by decide +kernel) (by decide +kernel)
set_option maxRecDepth 20000 in
theorem gX11_number_X11_next : GoodIn wsX11_number (wsV RX11 87 RX11 yX11_next wsX11_next) := goodIn_app (goodIn_of _ (by decide +kernel)) ggX11_number_X11_next
set_option maxRecDepth 20000 in
theorem ggX11_number_X11_isDigit : GoodIn wsX11_number wsX11_isDigit := goodIn_r _ [21, 22, 23, 6, 24] (by decide +kernel) (by decide +kernel)
set_option maxRecDepth 20000 in
theorem gX11_number_X11_isDigit : GoodIn wsX11_number (va_wsS RX11 104 yX11_isDigit wsX11_isDigit) := goodIn_app (goodIn_of _ (by decide +kernel)) ggX11_number_X11_isDigit
set_option maxRecDepth 20000 in
theorem ggX11_number_X11_report : GoodIn wsX11_number wsX11_report := goodIn_r _ [28, 8, 29, 33, 34, 35, 36, 37, 38, 39, 40, 41, 42, 43, 44, 45, 46, 47, 48, 49, 50, 51, 52, 53, 54, 55, 56, 57, 58, 59, 60] (by decide +kernel) (by decide +kernel)
set_option maxRecDepth 20000 in
theorem gX11_number_X11_report : GoodIn wsX11_number (wsV RX11 100 RX11 yX11_report wsX11_report) := goodIn_app (goodIn_of _ (by decide +kernel)) ggX11_number_X11_report
set_option maxRecDepth 20000 in
theorem ggX11_number_X11_byteAt : GoodIn wsX11_number wsX11_byteAt := goodIn_r _ [16, 17, 18, 33, 34, 35, 36, 37, 38, 39, 40, 41, 42, 43, 44, 45, 46, 47, 48, 49, 50, 51, 52, 53, 54, 55, 56, 57, 58, 59, 60] (by decide +kernel) (by decide +kernel)
set_option maxRecDepth 20000 in
theorem gX11_number_X11_byteAt : GoodIn wsX11_number (wsV RX11 69 RX11 yX11_byteAt wsX11_byteAt) := goodIn_app (goodIn_of _ (by decide +kernel)) ggX11_number_X11_byteAt
set_option maxRecDepth 20000 in
theorem ggX11_number_X11_min : GoodIn wsX11_number wsX11_min := goodIn_r _ [32] (by decide +kernel) (by decide +kernel)
set_option maxRecDepth 20000 in
theorem gX11_number_X11_min : GoodIn wsX11_number (va_wsS RX11 109 yX11_min wsX11_min) := goodIn_app (goodIn_of _ (by decide +kernel)) ggX11_number_X11_min
set_option maxRecDepth 20000 in
theorem ggX11_number_X11_in : GoodIn wsX11_number wsX11_in := goodIn_r _ [24] (by decide +kernel) (by decide +kernel)
set_option maxRecDepth 20000 in
theorem gX11_number_X11_in : GoodIn wsX11_number (va_wsS RX11 79 yX11_in wsX11_in) := goodIn_app (goodIn_of _ (by decide +kernel)) ggX11_number_X11_in
theorem dX11_number_0 : decode cX11_number 0 = .ok (.aload_n 0, 1) := by decide +kernel
theorem dX11_number_1 : decode cX11_number 1 = .ok (.invokevirtual 83, 3) := by decide +kernel
theorem dX11_number_4 : decode cX11_number 4 = .ok (.ifCond .ne 5, 3) := by decide +kernel
theorem dX11_number_7 : decode cX11_number 7 = .ok (.iconst 0, 1) := by decide +kernel
theorem dX11_number_8 : decode cX11_number 8 = .ok (.ireturn, 1) := by decide +kernel
theorem dX11_number_9 : decode cX11_number 9 = .ok (.aload_n 0, 1) := by decide +kernel
theorem dX11_number_10 : decode cX11_number 10 = .ok (.invokevirtual 87, 3) := by decide +kernel
theorem dX11_number_13 : decode cX11_number 13 = .ok (.invokestatic 104, 3) := by decide +kernel
theorem dX11_number_16 : decode cX11_number 16 = .ok (.ifCond .ne 15, 3) := by decide +kernel
theorem dX11_number_19 : decode cX11_number 19 = .ok (.aload_n 0, 1) := by decide +kernel
theorem dX11_number_20 : decode cX11_number 20 = .ok (.bipush (-2), 2) := by decide +kernel
theorem dX11_number_22 : decode cX11_number 22 = .ok (.aload_n 0, 1) := by decide +kernel
theorem dX11_number_23 : decode cX11_number 23 = .ok (.getfield 66, 3) := by decide +kernel
theorem dX11_number_26 : decode cX11_number 26 = .ok (.invokevirtual 100, 3) := by decide +kernel
theorem dX11_number_29 : decode cX11_number 29 = .ok (.iconst 0, 1) := by decide +kernel
theorem dX11_number_30 : decode cX11_number 30 = .ok (.ireturn, 1) := by decide +kernel
theorem dX11_number_31 : decode cX11_number 31 = .ok (.aload_n 0, 1) := by decide +kernel
theorem dX11_number_32 : decode cX11_number 32 = .ok (.getfield 66, 3) := by decide +kernel
theorem dX11_number_35 : decode cX11_number 35 = .ok (.istore_n 3, 1) := by decide +kernel
theorem dX11_number_36 : decode cX11_number 36 = .ok (.iconst 0, 1) := by decide +kernel
theorem dX11_number_37 : decode cX11_number 37 = .ok (.istore 4, 2) := by decide +kernel
theorem dX11_number_39 : decode cX11_number 39 = .ok (.aload_n 0, 1) := by decide +kernel
theorem dX11_number_40 : decode cX11_number 40 = .ok (.aload_n 0, 1) := by decide +kernel
theorem dX11_number_41 : decode cX11_number 41 = .ok (.getfield 66, 3) := by decide +kernel
theorem dX11_number_44 : decode cX11_number 44 = .ok (.invokevirtual 69, 3) := by decide +kernel
theorem dX11_number_47 : decode cX11_number 47 = .ok (.invokestatic 104, 3) := by decide +kernel
theorem dX11_number_50 : decode cX11_number 50 = .ok (.ifCond .eq 40, 3) := by decide +kernel
theorem dX11_number_53 : decode cX11_number 53 = .ok (.ldc 108, 2) := by decide +kernel
theorem dX11_number_55 : decode cX11_number 55 = .ok (.bipush 10, 2) := by decide +kernel
theorem dX11_number_57 : decode cX11_number 57 = .ok (.iload 4, 2) := by decide +kernel
theorem dX11_number_59 : decode cX11_number 59 = .ok (.imul, 1) := by decide +kernel
theorem dX11_number_60 : decode cX11_number 60 = .ok (.aload_n 0, 1) := by decide +kernel
theorem dX11_number_61 : decode cX11_number 61 = .ok (.aload_n 0, 1) := by decide +kernel
theorem dX11_number_62 : decode cX11_number 62 = .ok (.getfield 66, 3) := by decide +kernel
theorem dX11_number_65 : decode cX11_number 65 = .ok (.invokevirtual 69, 3) := by decide +kernel
theorem dX11_number_68 : decode cX11_number 68 = .ok (.iadd, 1) := by decide +kernel
theorem dX11_number_69 : decode cX11_number 69 = .ok (.bipush 48, 2) := by decide +kernel
theorem dX11_number_71 : decode cX11_number 71 = .ok (.isub, 1) := by decide +kernel
theorem dX11_number_72 : decode cX11_number 72 = .ok (.invokestatic 109, 3) := by decide +kernel
theorem dX11_number_75 : decode cX11_number 75 = .ok (.istore 4, 2) := by decide +kernel
theorem dX11_number_77 : decode cX11_number 77 = .ok (.aload_n 0, 1) := by decide +kernel
theorem dX11_number_78 : decode cX11_number 78 = .ok (.dup, 1) := by decide +kernel
theorem dX11_number_79 : decode cX11_number 79 = .ok (.getfield 66, 3) := by decide +kernel
theorem dX11_number_82 : decode cX11_number 82 = .ok (.iconst 1, 1) := by decide +kernel
theorem dX11_number_83 : decode cX11_number 83 = .ok (.iadd, 1) := by decide +kernel
theorem dX11_number_84 : decode cX11_number 84 = .ok (.putfield 66, 3) := by decide +kernel
theorem dX11_number_87 : decode cX11_number 87 = .ok (.goto (-48), 3) := by decide +kernel
theorem dX11_number_90 : decode cX11_number 90 = .ok (.iload 4, 2) := by decide +kernel
theorem dX11_number_92 : decode cX11_number 92 = .ok (.iload_n 1, 1) := by decide +kernel
theorem dX11_number_93 : decode cX11_number 93 = .ok (.iload_n 2, 1) := by decide +kernel
theorem dX11_number_94 : decode cX11_number 94 = .ok (.invokestatic 79, 3) := by decide +kernel
theorem dX11_number_97 : decode cX11_number 97 = .ok (.ifCond .ne 10, 3) := by decide +kernel
theorem dX11_number_100 : decode cX11_number 100 = .ok (.aload_n 0, 1) := by decide +kernel
theorem dX11_number_101 : decode cX11_number 101 = .ok (.bipush (-3), 2) := by decide +kernel
theorem dX11_number_103 : decode cX11_number 103 = .ok (.iload_n 3, 1) := by decide +kernel
theorem dX11_number_104 : decode cX11_number 104 = .ok (.invokevirtual 100, 3) := by decide +kernel
theorem dX11_number_107 : decode cX11_number 107 = .ok (.iload 4, 2) := by decide +kernel
theorem dX11_number_109 : decode cX11_number 109 = .ok (.ireturn, 1) := by decide +kernel
set_option maxRecDepth 20000 in
theorem ggX11_emit_X11_isGood : GoodIn wsX11_emit wsX11_isGood := goodIn_r _ [6, 7, 8, 9, 10, 11, 12, 13, 14, 15, 16, 17, 18, 19, 20, 21, 22, 23, 24, 25, 26, 27, 28, 29, 30, 31, 32, 33, 34, 35] (by decide +kernel) (by decide +kernel)
set_option maxRecDepth 20000 in
theorem gX11_emit_X11_isGood : GoodIn wsX11_emit (wsV RX11 83 RX11 yX11_isGood wsX11_isGood) := goodIn_app (goodIn_of _ (by decide +kernel)) ggX11_emit_X11_isGood
theorem dX11_emit_0 : decode cX11_emit 0 = .ok (.aload_n 0, 1) := by decide +kernel
theorem dX11_emit_1 : decode cX11_emit 1 = .ok (.invokevirtual 83, 3) := by decide +kernel
theorem dX11_emit_4 : decode cX11_emit 4 = .ok (.ifCond .ne 4, 3) := by decide +kernel
theorem dX11_emit_7 : decode cX11_emit 7 = .ok (.return_, 1) := by decide +kernel
theorem dX11_emit_8 : decode cX11_emit 8 = .ok (.aload_n 0, 1) := by decide +kernel
theorem dX11_emit_9 : decode cX11_emit 9 = .ok (.getfield 20, 3) := by decide +kernel
theorem dX11_emit_12 : decode cX11_emit 12 = .ok (.bipush 111, 2) := by decide +kernel
theorem dX11_emit_14 : decode cX11_emit 14 = .ok (.aload_n 0, 1) := by decide +kernel
theorem dX11_emit_15 : decode cX11_emit 15 = .ok (.getfield 20, 3) := by decide +kernel
theorem dX11_emit_18 : decode cX11_emit 18 = .ok (.iconst 4, 1) := by decide +kernel
theorem dX11_emit_19 : decode cX11_emit 19 = .ok (.iaload, 1) := by decide +kernel
theorem dX11_emit_20 : decode cX11_emit 20 = .ok (.iadd, 1) := by decide +kernel
theorem dX11_emit_21 : decode cX11_emit 21 = .ok (.iload_n 1, 1) := by decide +kernel
theorem dX11_emit_22 : decode cX11_emit 22 = .ok (.iastore, 1) := by decide +kernel
theorem dX11_emit_23 : decode cX11_emit 23 = .ok (.aload_n 0, 1) := by decide +kernel
theorem dX11_emit_24 : decode cX11_emit 24 = .ok (.getfield 20, 3) := by decide +kernel
theorem dX11_emit_27 : decode cX11_emit 27 = .ok (.iconst 4, 1) := by decide +kernel
theorem dX11_emit_28 : decode cX11_emit 28 = .ok (.dup2, 1) := by decide +kernel
theorem dX11_emit_29 : decode cX11_emit 29 = .ok (.iaload, 1) := by decide +kernel
theorem dX11_emit_30 : decode cX11_emit 30 = .ok (.iconst 1, 1) := by decide +kernel
theorem dX11_emit_31 : decode cX11_emit 31 = .ok (.iadd, 1) := by decide +kernel
theorem dX11_emit_32 : decode cX11_emit 32 = .ok (.iastore, 1) := by decide +kernel
theorem dX11_emit_33 : decode cX11_emit 33 = .ok (.return_, 1) := by decide +kernel
set_option maxRecDepth 20000 in
theorem ggX11_factor_X11_isGood : GoodIn wsX11_factor wsX11_isGood := goodIn_r _ [7, 8, 111, 112, 113, 114, 115, 116, 117, 118, 119, 120, 121, 122, 123, 124, 125, 126, 127, 128, 129, 130, 131, 132, 133, 134, 135, 136, 137, 138] (by decide +kernel) (by decide +kernel)
set_option maxRecDepth 20000 in
theorem gX11_factor_X11_isGood : GoodIn wsX11_factor (wsV RX11 83 RX11 yX11_isGood wsX11_isGood) := goodIn_app (goodIn_of _ (by decide +kernel)) ggX11_factor_X11_isGood
set_option maxRecDepth 20000 in
theorem ggX11_factor_X11_next : GoodIn wsX11_factor wsX11_next := goodIn_r _ [12, 2, 13, 14, 15, 6, 16, 17, 18, 111, 112, 113, 114, 115, 116, 117, 118, 119, 120, 121, 122, 123, 124, 125, 126, 127, 128, 129, 130, 131, 132, 133, 134, 135, 136, 137, 138] (by decide +kernel) (by decide +kernel)
set_option maxRecDepth 20000 in
theorem gX11_factor_X11_next : GoodIn wsX11_factor (wsV RX11 87 RX11 yX11_next wsX11_next) := goodIn_app (goodIn_of _ (by decide +kernel)) ggX11_factor_X11_next
set_option maxRecDepth 20000 in
theorem ggX11_factor_X11_report : GoodIn wsX11_factor wsX11_report := goodIn_r _ [22, 8, 23, 111, 112, 113, 114, 115, 116, 117, 118, 119, 120, 121, 122, 123, 124, 125, 126, 127, 128, 129, 130, 131, 132, 133, 134, 135, 136, 137, 138] (by decide +kernel) (by decide +kernel)
set_option maxRecDepth 20000 in
theorem gX11_factor_X11_report : GoodIn wsX11_factor (wsV RX11 100 RX11 yX11_report wsX11_report) := goodIn_app (goodIn_of _ (by decide +kernel)) ggX11_factor_X11_report
set_option maxRecDepth 20000 in
theorem ggX11_factor_X11_sum : GoodIn wsX11_factor wsX11_sum := goodIn_r _ [103, 2, 104, 105, 106, 6, 3, 4, 5, 7, 8, 9, 10, 11, 12, 13, 14, 15, 16, 17, 18, 98, 99, 100, 101, 102, 0, 1, 19, 20, 21, 22, 23, 24, 25, 26, 27, 28, 29, 30, 31, 32, 33, 34, 35, 36, 37, 38, 39, 40, 41, 42, 43, 44, 45, 46, 47, 48, 49, 50, 51, 52, 53, 54, 55, 56, 57, 58, 59, 60, 61, 62, 63, 64, 65, 66, 67, 68, 69, 70, 71, 72, 73, 74, 75, 76, 77, 78, 79, 80, 81, 82, 83, 84, 85, 86, 87, 88, 89, 90, 91, 92, 93, 94, 95, 96, 97, 107, 108, 109, 110, 111, 112, 113, 114, 115, 116, 117, 118, 119, 120, 121, 122, 123, 124, 125, 126, 127, 128, 129, 130, 131, 132, 133, 134, 135, 136, 137, 138] (by decide +kernel) (by decide +kernel)
set_option maxRecDepth 20000 in
theorem gX11_factor_X11_sum : GoodIn wsX11_factor (wsV RX11 116 RX11 yX11_sum wsX11_sum) := goodIn_app (goodIn_of _ (by decide +kernel)) ggX11_factor_X11_sum
set_option maxRecDepth 20000 in
theorem ggX11_factor_X11_expect : GoodIn wsX11_factor wsX11_expect := goodIn_r _ [30, 2, 3, 4, 5, 6, 7, 8, 9, 10, 11, 12, 13, 14, 15, 16, 17, 18, 19, 20, 21, 22, 23, 111, 112, 113, 114, 115, 116, 117, 118, 119, 120, 121, 122, 123, 124, 125, 126, 127, 128, 129, 130, 131, 132, 133, 134, 135, 136, 137, 138] (by decide +kernel) (by decide +kernel)
set_option maxRecDepth 20000 in
theorem gX11_factor_X11_expect : GoodIn wsX11_factor (wsV RX11 119 RX11 yX11_expect wsX11_expect) := goodIn_app (goodIn_of _ (by decide +kernel)) ggX11_factor_X11_expect
