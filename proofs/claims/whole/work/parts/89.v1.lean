set_option maxRecDepth 20000 in
theorem gw_wsX10_load_r1 : GoodIn wsQ_law wsX10_load_r1 := goodIn_r _ [178, 179, 15, 20, 14, 180, 16, 181, 40, 49, 28, 182, 24, 183, 184, 185, 186, 19, 187, 53, 54, 56, 65, 67] (by decide +kernel) (by decide +kernel)
set_option maxRecDepth 20000 in
theorem gw_wsX10_load_r2 : GoodIn wsQ_law wsX10_load_r2 := goodIn_r _ [60, 188, 189, 190, 191, 27, 192, 71, 72, 193, 194, 195, 196, 197, 198, 199, 59, 200, 79, 201, 202, 203, 204, 80] (by decide +kernel) (by decide +kernel)
set_option maxRecDepth 20000 in
theorem gw_wsX10_load_r3 : GoodIn wsQ_law wsX10_load_r3 := goodIn_r _ [81, 205, 206, 207, 208, 77, 78, 76, 209, 210, 211, 212, 213, 61, 62, 214, 215, 216, 217, 218, 219, 220, 221, 222] (by decide +kernel) (by decide +kernel)
set_option maxRecDepth 20000 in
theorem gw_wsX10_load_r4 : GoodIn wsQ_law wsX10_load_r4 := goodIn_r _ [223, 224, 225, 226, 227, 228, 229, 230, 231, 232, 233, 234, 235, 236, 237, 238, 239, 240, 241, 242, 243, 244, 245, 246] (by decide +kernel) (by decide +kernel)
set_option maxRecDepth 20000 in
theorem gw_wsX10_load_r5 : GoodIn wsQ_law wsX10_load_r5 := goodIn_r _ [247, 248, 249, 250, 251, 252, 253, 254, 255, 256, 257, 258, 259, 260, 261, 262, 263, 264, 265, 266, 267, 268, 269, 270] (by decide +kernel) (by decide +kernel)
set_option maxRecDepth 20000 in
theorem gw_wsX10_load_r6 : GoodIn wsQ_law wsX10_load_r6 := goodIn_r _ [271, 272, 273, 274, 275, 276, 277, 278, 279, 280, 281, 282, 283, 284, 285, 286, 287, 288, 289, 290, 291, 292, 293, 63] (by decide +kernel) (by decide +kernel)
set_option maxRecDepth 20000 in
theorem gw_wsX10_load_r7 : GoodIn wsQ_law wsX10_load_r7 := goodIn_r _ [294, 295, 296, 297, 298, 299, 300, 301, 302, 303, 11, 12, 304, 305, 306, 307, 308, 309, 310, 311, 312, 313, 64, 314] (by decide +kernel) (by decide +kernel)
set_option maxRecDepth 20000 in
theorem gw_wsX10_load_r8 : GoodIn wsQ_law wsX10_load_r8 := goodIn_r _ [315, 316, 317, 318, 319, 320, 321, 322, 323, 324, 325, 326, 327, 328, 329, 330, 331, 332, 333, 334, 335, 336, 337, 338] (by decide +kernel) (by decide +kernel)
set_option maxRecDepth 20000 in
theorem gw_wsX10_load_r9 : GoodIn wsQ_law wsX10_load_r9 := goodIn_r _ [339, 340, 341, 342, 343, 344, 66, 345, 346, 347, 348, 349, 350, 351, 352, 353, 354, 355, 356, 39, 357, 116, 119, 118] (by decide +kernel) (by decide +kernel)
set_option maxRecDepth 20000 in
theorem gw_wsX10_load_r10 : GoodIn wsQ_law wsX10_load_r10 := goodIn_r _ [120, 358, 359, 360, 361, 362, 363, 364, 365, 366, 367, 368, 369, 370, 371, 42, 43, 372, 46, 47, 373, 374, 375, 376] (by decide +kernel) (by decide +kernel)
set_option maxRecDepth 20000 in
theorem gw_wsX10_load_r11 : GoodIn wsQ_law wsX10_load_r11 := goodIn_r _ [377, 378, 379, 380, 381, 48, 382, 383, 384, 122, 123, 124, 125, 126, 385, 128, 129, 130, 131, 132, 133, 134, 386, 387] (by decide +kernel) (by decide +kernel)
set_option maxRecDepth 20000 in
theorem gw_wsX10_load_r12 : GoodIn wsQ_law wsX10_load_r12 := goodIn_r _ [388, 389, 23, 390, 87, 88, 391, 89, 392, 393, 394, 395, 396, 397, 398, 399, 400, 401, 402, 403, 404, 405, 406, 407] (by decide +kernel) (by decide +kernel)
set_option maxRecDepth 20000 in
theorem gw_wsX10_load_r13 : GoodIn wsQ_law wsX10_load_r13 := goodIn_r _ [85, 86, 408, 409, 410, 411, 412, 413, 414, 415, 416, 417, 418, 419, 420, 421, 422, 423, 90, 424, 425, 426, 427, 428] (by decide +kernel) (by decide +kernel)
set_option maxRecDepth 20000 in
theorem gw_wsX10_load_r14 : GoodIn wsQ_law wsX10_load_r14 := goodIn_r _ [429, 430, 431, 432, 433, 434, 2, 435, 436, 437, 438, 439, 440, 441, 442, 443, 444, 445, 446, 447, 448, 92, 91, 449] (by decide +kernel) (by decide +kernel)
