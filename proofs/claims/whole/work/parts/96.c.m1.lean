set_option maxRecDepth 20000 in
theorem ggL_law_X10_init : GoodIn wsQ_law wsX10_init := goodIn_r _ [9, 10, 11, 12, 13, 14, 15, 16, 17, 18, 19, 20, 21, 22, 23, 24, 25, 26, 27, 28, 29, 30, 31, 32, 33, 34, 35, 36, 37, 38, 39, 40, 41, 42, 43, 44, 45, 46, 47, 48, 49, 50, 51, 52, 53, 54, 55, 56, 57, 58, 59, 60, 61, 62, 63, 64, 65, 66, 67, 68, 69, 70, 6, 71, 72, 73, 74, 75, 76, 77, 78, 79, 80, 81, 82, 83, 84, 85, 86, 87, 88, 89, 90, 91, 92, 93, 94, 95, 96, 97, 98, 99, 100, 101, 102, 103, 104, 105, 106, 107, 108, 109, 110, 111, 112, 113, 114, 115, 116, 117, 118, 119, 120, 121, 122, 123, 124, 125, 126, 127, 128, 129, 130, 131, 132, 133, 134, 1063, 1064, 1065, 1066, 1067, 1068, 1069, 1070, 1071, 1072, 1101, 1102, 1103, 1104, 1105, 1106, 1107, 1108, 1109, 1110, 1111, 1112, 1113, 1114, 1115, 1116, 1117, 1118, 1119, 1120, 1121, 1122, 1123, 1124, 1125, 1126, 1127, 1128, 1129, 1130, 1131, 1132, 1133, 1134, 1135, 1136, 1137, 1138, 1139, 1140, 1141, 1142, 1143, 1144, 1145, 1146] (by decide +kernel) (by decide +kernel)
set_option maxRecDepth 20000 in
theorem gL_law_X10_init : GoodIn wsQ_law (wsX10_init) := ggL_law_X10_init
set_option maxRecDepth 20000 in
theorem ggL_law_X11_init : GoodIn wsQ_law wsX11_init := goodIn_r _ [137, 138, 11, 12, 48, 139, 140, 141, 142, 143, 144, 145, 146, 147, 148, 149, 150, 151, 152, 6, 153, 154, 1073, 1074, 1075, 1076, 1077, 1078, 1079, 1080, 1081, 1082, 1083, 1084, 1085, 1086, 1087, 1088, 1089, 1090, 1091, 1092, 1093, 1094, 1095, 1096, 1097, 1098, 1099, 1100] (by decide +kernel) (by decide +kernel)
set_option maxRecDepth 20000 in
theorem gL_law_X11_init : GoodIn wsQ_law (wsX11_init) := ggL_law_X11_init
set_option maxRecDepth 20000 in
theorem ggL_law_X10_append : GoodIn wsQ_law wsX10_append := goodIn_r _ [158, 15, 159, 160, 161, 2, 162, 14, 1063, 1064, 1065, 1066, 1067, 1068, 1069, 1070, 1071, 1072] (by decide +kernel) (by decide +kernel)
set_option maxRecDepth 20000 in
theorem gL_law_X10_append : GoodIn wsQ_law (wsV RL 70 RX10 yX10_append wsX10_append) := goodIn_app (goodIn_of _ (by decide +kernel)) ggL_law_X10_append
set_option maxRecDepth 20000 in
theorem ggL_law_X11_append : GoodIn wsQ_law wsX11_append := goodIn_r _ [166, 167, 168, 139, 1073, 1074, 1075, 1076, 1077, 1078, 1079, 1080, 1081, 1082, 1083, 1084, 1085, 1086, 1087, 1088, 1089, 1090, 1091, 1092, 1093, 1094, 1095, 1096, 1097, 1098, 1099, 1100] (by decide +kernel) (by decide +kernel)
set_option maxRecDepth 20000 in
theorem gL_law_X11_append : GoodIn wsQ_law (wsV RL 74 RX11 yX11_append wsX11_append) := goodIn_app (goodIn_of _ (by decide +kernel)) ggL_law_X11_append
set_option maxRecDepth 20000 in
theorem ggL_law_X11_load : GoodIn wsQ_law wsX11_load := goodIn_r _ [453, 167, 168, 454, 455, 456, 457, 458, 459, 142, 140, 141, 460, 461, 5, 462, 463, 464, 465, 466, 467, 468, 469, 470, 471, 472, 473, 474, 475, 476, 477, 478, 479, 480, 481, 482, 139, 483, 219, 220, 221, 222, 223, 224, 225, 226, 227, 228, 229, 484, 231, 232, 233, 234, 235, 236, 237, 238, 239, 240, 241, 242, 243, 244, 245, 246, 247, 248, 249, 250, 251, 252, 253, 254, 255, 256, 257, 258, 259, 260, 261, 262, 263, 264, 265, 266, 485, 486, 487, 488, 489, 490, 491, 492, 493, 494, 495, 496, 497, 498, 499, 500, 501, 502, 503, 504, 505, 506, 507, 508, 509, 510, 511, 512, 513, 514, 515, 516, 517, 518, 519, 520, 521, 522, 523, 524, 525, 526, 527, 528, 529, 530, 531, 532, 533, 534, 535, 536, 537, 538, 539, 540, 541, 542, 543, 145, 544, 545, 546, 547, 548, 549, 550, 551, 150, 151, 152, 552, 553, 554, 555, 147, 556, 557, 558, 559, 148, 149, 560, 561, 562, 563, 564, 565, 566, 567, 1073, 1074, 1075, 1076, 1077, 1078, 1079, 1080, 1081, 1082, 1083, 1084, 1085, 1086, 1087, 1088, 1089, 1090, 1091, 1092, 1093, 1094, 1095, 1096, 1097, 1098, 1099, 1100] (by decide +kernel) (by decide +kernel)
set_option maxRecDepth 20000 in
theorem gL_law_X11_load : GoodIn wsQ_law (wsV RL 80 RX11 yX11_load wsX11_load) := goodIn_app (goodIn_of _ (by decide +kernel)) ggL_law_X11_load
set_option maxRecDepth 20000 in
theorem ggL_law_X11_thrown : GoodIn wsQ_law wsX11_thrown := goodIn_r _ [571, 167, 1073, 1074, 1075, 1076, 1077, 1078, 1079, 1080, 1081, 1082, 1083, 1084, 1085, 1086, 1087, 1088, 1089, 1090, 1091, 1092, 1093, 1094, 1095, 1096, 1097, 1098, 1099, 1100] (by decide +kernel) (by decide +kernel)
set_option maxRecDepth 20000 in
theorem gL_law_X11_thrown : GoodIn wsQ_law (wsV RL 81 RX11 yX11_thrown wsX11_thrown) := goodIn_app (goodIn_of _ (by decide +kernel)) ggL_law_X11_thrown
set_option maxRecDepth 20000 in
theorem ggL_law_X10_errorOffset : GoodIn wsQ_law wsX10_errorOffset := goodIn_r _ [575, 16, 1063, 1064, 1065, 1066, 1067, 1068, 1069, 1070, 1071, 1072] (by decide +kernel) (by decide +kernel)
set_option maxRecDepth 20000 in
theorem gL_law_X10_errorOffset : GoodIn wsQ_law (wsV RL 85 RX10 yX10_errorOffset wsX10_errorOffset) := goodIn_app (goodIn_of _ (by decide +kernel)) ggL_law_X10_errorOffset
set_option maxRecDepth 20000 in
theorem ggL_law_X11_errorOffset : GoodIn wsQ_law wsX11_errorOffset := goodIn_r _ [579, 167, 140, 1073, 1074, 1075, 1076, 1077, 1078, 1079, 1080, 1081, 1082, 1083, 1084, 1085, 1086, 1087, 1088, 1089, 1090, 1091, 1092, 1093, 1094, 1095, 1096, 1097, 1098, 1099, 1100] (by decide +kernel) (by decide +kernel)
set_option maxRecDepth 20000 in
theorem gL_law_X11_errorOffset : GoodIn wsQ_law (wsV RL 88 RX11 yX11_errorOffset wsX11_errorOffset) := goodIn_app (goodIn_of _ (by decide +kernel)) ggL_law_X11_errorOffset
set_option maxRecDepth 20000 in
theorem ggL_law_X10_numberCount : GoodIn wsQ_law wsX10_numberCount := goodIn_r _ [583, 49, 584, 1063, 1064, 1065, 1066, 1067, 1068, 1069, 1070, 1071, 1072, 1135, 1136, 1137, 1138] (by decide +kernel) (by decide +kernel)
set_option maxRecDepth 20000 in
theorem gL_law_X10_numberCount : GoodIn wsQ_law (wsV RL 89 RX10 yX10_numberCount wsX10_numberCount) := goodIn_app (goodIn_of _ (by decide +kernel)) ggL_law_X10_numberCount
set_option maxRecDepth 20000 in
theorem ggL_law_X11_numberCount : GoodIn wsQ_law wsX11_numberCount := goodIn_r _ [588, 167, 141, 1073, 1074, 1075, 1076, 1077, 1078, 1079, 1080, 1081, 1082, 1083, 1084, 1085, 1086, 1087, 1088, 1089, 1090, 1091, 1092, 1093, 1094, 1095, 1096, 1097, 1098, 1099, 1100] (by decide +kernel) (by decide +kernel)
set_option maxRecDepth 20000 in
theorem gL_law_X11_numberCount : GoodIn wsQ_law (wsV RL 92 RX11 yX11_numberCount wsX11_numberCount) := goodIn_app (goodIn_of _ (by decide +kernel)) ggL_law_X11_numberCount
set_option maxRecDepth 20000 in
theorem ggL_law_X10_colourCount : GoodIn wsQ_law wsX10_colourCount := goodIn_r _ [592, 49, 593, 1063, 1064, 1065, 1066, 1067, 1068, 1069, 1070, 1071, 1072, 1135, 1136, 1137, 1138] (by decide +kernel) (by decide +kernel)
set_option maxRecDepth 20000 in
theorem gL_law_X10_colourCount : GoodIn wsQ_law (wsV RL 93 RX10 yX10_colourCount wsX10_colourCount) := goodIn_app (goodIn_of _ (by decide +kernel)) ggL_law_X10_colourCount
set_option maxRecDepth 20000 in
theorem ggL_law_X11_colourCount : GoodIn wsQ_law wsX11_colourCount := goodIn_r _ [597, 167, 141, 1073, 1074, 1075, 1076, 1077, 1078, 1079, 1080, 1081, 1082, 1083, 1084, 1085, 1086, 1087, 1088, 1089, 1090, 1091, 1092, 1093, 1094, 1095, 1096, 1097, 1098, 1099, 1100] (by decide +kernel) (by decide +kernel)
set_option maxRecDepth 20000 in
theorem gL_law_X11_colourCount : GoodIn wsQ_law (wsV RL 96 RX11 yX11_colourCount wsX11_colourCount) := goodIn_app (goodIn_of _ (by decide +kernel)) ggL_law_X11_colourCount
set_option maxRecDepth 20000 in
theorem ggL_law_X10_ruleCount : GoodIn wsQ_law wsX10_ruleCount := goodIn_r _ [601, 49, 183, 1063, 1064, 1065, 1066, 1067, 1068, 1069, 1070, 1071, 1072, 1135, 1136, 1137, 1138] (by decide +kernel) (by decide +kernel)
set_option maxRecDepth 20000 in
theorem gL_law_X10_ruleCount : GoodIn wsQ_law (wsV RL 97 RX10 yX10_ruleCount wsX10_ruleCount) := goodIn_app (goodIn_of _ (by decide +kernel)) ggL_law_X10_ruleCount
set_option maxRecDepth 20000 in
theorem ggL_law_X11_ruleCount : GoodIn wsQ_law wsX11_ruleCount := goodIn_r _ [605, 167, 141, 1073, 1074, 1075, 1076, 1077, 1078, 1079, 1080, 1081, 1082, 1083, 1084, 1085, 1086, 1087, 1088, 1089, 1090, 1091, 1092, 1093, 1094, 1095, 1096, 1097, 1098, 1099, 1100] (by decide +kernel) (by decide +kernel)
set_option maxRecDepth 20000 in
theorem gL_law_X11_ruleCount : GoodIn wsQ_law (wsV RL 100 RX11 yX11_ruleCount wsX11_ruleCount) := goodIn_app (goodIn_of _ (by decide +kernel)) ggL_law_X11_ruleCount
set_option maxRecDepth 20000 in
theorem ggL_law_L_solutions : GoodIn wsQ_law wsL_solutions := goodIn_ca (goodIn_r _ [608, 609, 610, 611, 612, 2, 613, 614, 615, 49, 183, 24, 616, 617, 618, 23, 619, 88, 1063, 1064, 1065, 1066, 1067, 1068, 1069, 1070, 1071, 1072, 1135, 1136, 1137, 1138, 1111, 1112, 1113, 1114, 1115, 1116, 1117, 1118] (by decide +kernel) (by decide +kernel)) (goodIn_sub (fun _ h => List.mem_append_left _ (List.mem_append_left _ (List.mem_append_right _ h))) (by decide +kernel))
set_option maxRecDepth 20000 in
theorem gL_law_L_solutions : GoodIn wsQ_law (va_wsS RL 101 yL_solutions wsL_solutions) := goodIn_app (goodIn_of _ (by decide +kernel)) ggL_law_L_solutions
set_option maxRecDepth 20000 in
theorem ggL_law_X11_solutions : GoodIn wsQ_law wsX11_solutions := goodIn_r _ [623, 167, 141, 150, 460, 461, 5, 462, 463, 464, 465, 466, 1073, 1074, 1075, 1076, 1077, 1078, 1079, 1080, 1081, 1082, 1083, 1084, 1085, 1086, 1087, 1088, 1089, 1090, 1091, 1092, 1093, 1094, 1095, 1096, 1097, 1098, 1099, 1100] (by decide +kernel) (by decide +kernel)
set_option maxRecDepth 20000 in
theorem gL_law_X11_solutions : GoodIn wsQ_law (wsV RL 103 RX11 yX11_solutions wsX11_solutions) := goodIn_app (goodIn_of _ (by decide +kernel)) ggL_law_X11_solutions
set_option maxRecDepth 20000 in
theorem ggL_law_L_colour : GoodIn wsQ_law wsL_colour := goodIn_ca (goodIn_r _ [626, 609, 627, 628, 629, 2, 630, 28, 631, 632, 633, 634, 614, 615, 49, 584, 635, 636, 637, 27, 638, 71, 1063, 1064, 1065, 1066, 1067, 1068, 1069, 1070, 1071, 1072, 1135, 1136, 1137, 1138, 1119, 1120] (by decide +kernel) (by decide +kernel)) (goodIn_sub (fun _ h => List.mem_append_left _ (List.mem_append_left _ (List.mem_append_right _ h))) (by decide +kernel))
set_option maxRecDepth 20000 in
theorem gL_law_L_colour : GoodIn wsQ_law (va_wsS RL 104 yL_colour wsL_colour) := goodIn_app (goodIn_of _ (by decide +kernel)) ggL_law_L_colour
set_option maxRecDepth 20000 in
theorem ggL_law_X11_colour : GoodIn wsQ_law wsX11_colour := goodIn_r _ [642, 167, 643, 644, 645, 5, 646, 141, 460, 461, 462, 463, 464, 465, 466, 647, 648, 649, 650, 1073, 1074, 1075, 1076, 1077, 1078, 1079, 1080, 1081, 1082, 1083, 1084, 1085, 1086, 1087, 1088, 1089, 1090, 1091, 1092, 1093, 1094, 1095, 1096, 1097, 1098, 1099, 1100] (by decide +kernel) (by decide +kernel)
set_option maxRecDepth 20000 in
theorem gL_law_X11_colour : GoodIn wsQ_law (wsV RL 106 RX11 yX11_colour wsX11_colour) := goodIn_app (goodIn_of _ (by decide +kernel)) ggL_law_X11_colour
set_option maxRecDepth 20000 in
theorem ggL_law_L_isFixed : GoodIn wsQ_law wsL_isFixed := goodIn_ca (goodIn_r _ [653, 609, 654, 655, 656, 2, 657, 28, 631, 632, 633, 634, 614, 615, 49, 584, 658, 659, 660, 27, 661, 72, 1063, 1064, 1065, 1066, 1067, 1068, 1069, 1070, 1071, 1072, 1135, 1136, 1137, 1138, 1119, 1120] (by decide +kernel) (by decide +kernel)) (goodIn_sub (fun _ h => List.mem_append_left _ (List.mem_append_left _ (List.mem_append_right _ h))) (by decide +kernel))
set_option maxRecDepth 20000 in
theorem gL_law_L_isFixed : GoodIn wsQ_law (va_wsS RL 107 yL_isFixed wsL_isFixed) := goodIn_app (goodIn_of _ (by decide +kernel)) ggL_law_L_isFixed
set_option maxRecDepth 20000 in
theorem ggL_law_X11_isFixed : GoodIn wsQ_law wsX11_isFixed := goodIn_r _ [665, 167, 141, 643, 644, 645, 5, 646, 460, 461, 462, 463, 464, 465, 466, 1073, 1074, 1075, 1076, 1077, 1078, 1079, 1080, 1081, 1082, 1083, 1084, 1085, 1086, 1087, 1088, 1089, 1090, 1091, 1092, 1093, 1094, 1095, 1096, 1097, 1098, 1099, 1100] (by decide +kernel) (by decide +kernel)
set_option maxRecDepth 20000 in
theorem gL_law_X11_isFixed : GoodIn wsQ_law (wsV RL 109 RX11 yX11_isFixed wsX11_isFixed) := goodIn_app (goodIn_of _ (by decide +kernel)) ggL_law_X11_isFixed
set_option maxRecDepth 20000 in
theorem ggL_law_L_count : GoodIn wsQ_law wsL_count := goodIn_ca (goodIn_r _ [668, 609, 669, 670, 671, 2, 672, 673, 674, 675, 676, 677, 678, 679, 680, 614, 615, 49, 593, 681, 682, 683, 684, 28, 584, 685, 686, 687, 27, 688, 71, 689, 690, 691, 692, 693, 694, 695, 1063, 1064, 1065, 1066, 1067, 1068, 1069, 1070, 1071, 1072, 1135, 1136, 1137, 1138, 1119, 1120] (by decide +kernel) (by decide +kernel)) (goodIn_sub (fun _ h => List.mem_append_left _ (List.mem_append_left _ (List.mem_append_right _ h))) (by decide +kernel))
set_option maxRecDepth 20000 in
theorem gL_law_L_count : GoodIn wsQ_law (va_wsS RL 110 yL_count wsL_count) := goodIn_app (goodIn_of _ (by decide +kernel)) ggL_law_L_count
set_option maxRecDepth 20000 in
theorem ggL_law_X11_count : GoodIn wsQ_law wsX11_count := goodIn_r _ [699, 167, 141, 700, 701, 702, 5, 703, 460, 461, 462, 463, 464, 465, 466, 647, 648, 649, 650, 1073, 1074, 1075, 1076, 1077, 1078, 1079, 1080, 1081, 1082, 1083, 1084, 1085, 1086, 1087, 1088, 1089, 1090, 1091, 1092, 1093, 1094, 1095, 1096, 1097, 1098, 1099, 1100] (by decide +kernel) (by decide +kernel)
set_option maxRecDepth 20000 in
theorem gL_law_X11_count : GoodIn wsQ_law (wsV RL 112 RX11 yX11_count wsX11_count) := goodIn_app (goodIn_of _ (by decide +kernel)) ggL_law_X11_count
set_option maxRecDepth 20000 in
theorem ggL_law_X10_conflicts : GoodIn wsQ_law wsX10_conflicts := goodIn_r _ [707, 24, 28, 708, 709, 710, 23, 711, 87, 85, 449, 712, 713, 714, 27, 715, 71, 329, 1063, 1064, 1065, 1066, 1067, 1068, 1069, 1070, 1071, 1072, 1111, 1112, 1113, 1114, 1115, 1116, 1117, 1118, 1119, 1120] (by decide +kernel) (by decide +kernel)
set_option maxRecDepth 20000 in
theorem gL_law_X10_conflicts : GoodIn wsQ_law (wsV RL 113 RX10 yX10_conflicts wsX10_conflicts) := goodIn_app (goodIn_of _ (by decide +kernel)) ggL_law_X10_conflicts
set_option maxRecDepth 20000 in
theorem ggL_law_X11_conflicts : GoodIn wsQ_law wsX11_conflicts := goodIn_r _ [719, 167, 720, 721, 722, 5, 723, 551, 724, 725, 726, 727, 147, 148, 647, 648, 649, 650, 141, 1073, 1074, 1075, 1076, 1077, 1078, 1079, 1080, 1081, 1082, 1083, 1084, 1085, 1086, 1087, 1088, 1089, 1090, 1091, 1092, 1093, 1094, 1095, 1096, 1097, 1098, 1099, 1100] (by decide +kernel) (by decide +kernel)
set_option maxRecDepth 20000 in
theorem gL_law_X11_conflicts : GoodIn wsQ_law (wsV RL 116 RX11 yX11_conflicts wsX11_conflicts) := goodIn_app (goodIn_of _ (by decide +kernel)) ggL_law_X11_conflicts
set_option maxRecDepth 20000 in
theorem ggL_law_X10_totalWeight : GoodIn wsQ_law wsX10_totalWeight := goodIn_r _ [731, 24, 28, 732, 733, 734, 23, 735, 87, 85, 712, 713, 714, 27, 715, 71, 329, 736, 737, 738, 739, 86, 90, 1063, 1064, 1065, 1066, 1067, 1068, 1069, 1070, 1071, 1072, 1111, 1112, 1113, 1114, 1115, 1116, 1117, 1118, 1119, 1120] (by decide +kernel) (by decide +kernel)
set_option maxRecDepth 20000 in
theorem gL_law_X10_totalWeight : GoodIn wsQ_law (wsV RL 117 RX10 yX10_totalWeight wsX10_totalWeight) := goodIn_app (goodIn_of _ (by decide +kernel)) ggL_law_X10_totalWeight
set_option maxRecDepth 20000 in
theorem ggL_law_X11_totalWeight : GoodIn wsQ_law wsX11_totalWeight := goodIn_r _ [743, 167, 744, 745, 746, 5, 747, 551, 724, 725, 726, 727, 147, 148, 647, 648, 649, 650, 141, 748, 749, 750, 751, 153, 149, 752, 753, 754, 755, 756, 497, 498, 499, 757, 758, 759, 760, 761, 762, 763, 764, 765, 766, 767, 1073, 1074, 1075, 1076, 1077, 1078, 1079, 1080, 1081, 1082, 1083, 1084, 1085, 1086, 1087, 1088, 1089, 1090, 1091, 1092, 1093, 1094, 1095, 1096, 1097, 1098, 1099, 1100] (by decide +kernel) (by decide +kernel)
set_option maxRecDepth 20000 in
theorem gL_law_X11_totalWeight : GoodIn wsQ_law (wsV RL 120 RX11 yX11_totalWeight wsX11_totalWeight) := goodIn_app (goodIn_of _ (by decide +kernel)) ggL_law_X11_totalWeight
