set_option maxRecDepth 20000 in
theorem ggL_law_X11_init : GoodIn wsL_law wsX11_init := goodIn_r _ [8, 9, 10, 11, 12, 13, 14, 15, 16, 17, 18, 19, 20, 21, 22, 23, 24, 25, 26, 27, 28, 29, 30, 31, 32, 33, 34, 35, 36, 37, 38, 39, 40, 41, 42, 43, 44, 45, 46, 47, 48, 49, 50, 51, 52, 53, 54, 55, 56, 57, 58, 59, 60, 61, 62, 63, 64, 65, 66, 67, 68, 69, 70, 71, 72, 73, 74, 75, 76, 77, 78, 79, 80, 81, 82, 83, 84, 85, 86, 87, 88, 89, 90, 91, 92, 93, 94, 95, 96, 97, 98, 99, 100, 101, 102, 103, 104, 105, 106, 107, 108, 109, 110, 111, 112, 113, 114, 115, 116, 117, 118, 119, 120, 121, 122, 123, 124, 125, 126, 127, 128, 129, 130, 131, 132, 133, 134, 135, 136, 137, 138, 139, 140, 141, 142, 143, 144, 145, 146, 147, 148, 149, 150, 151, 152, 153, 154, 155, 156, 157, 158, 159, 160, 161, 162, 163, 164, 165, 166, 167, 168, 169, 170, 171, 172, 173, 174, 175, 1078, 1079, 1080, 1081, 1082, 1083, 1084, 1085, 1086, 1087, 1088, 1089, 1090, 1091, 1053, 1054, 1055, 1056, 1092, 1093, 1094, 1095, 1096, 1097, 1098, 1099, 1100, 1101, 1102, 1103, 1104, 1105, 1106, 1107, 1108, 1109, 1110, 1111, 1112, 1113, 1114, 1115, 1116, 1117, 1118, 1119, 1120, 1121, 1122, 1123, 1124, 1125, 1126, 1127, 1128, 1129, 1130, 1131, 1132, 1133, 1134, 1135, 1136, 1137, 1138, 1139, 1140, 1141, 1142, 1143, 1144, 1145, 1146, 1147, 1148, 1149, 1150, 1151, 1152, 1153, 1154, 1155, 1156, 1157, 1158, 1159, 1160, 1161, 1162, 1163, 1164, 1165] (by decide +kernel) (by decide +kernel)
set_option maxRecDepth 20000 in
theorem gL_law_X11_init : GoodIn wsL_law (wsX11_init) := ggL_law_X11_init
set_option maxRecDepth 20000 in
theorem ggL_law_X12_init : GoodIn wsL_law wsX12_init := goodIn_r _ [178, 179, 10, 11, 74, 180, 181, 182, 183, 184, 185, 186, 187, 188, 189, 190, 1057, 1058, 1059, 1060, 1061, 1062, 1063, 1064, 1065, 1066, 1067, 1068, 1069, 1070, 1071, 1072, 1073, 1074, 1075, 1076, 1077] (by decide +kernel) (by decide +kernel)
set_option maxRecDepth 20000 in
theorem gL_law_X12_init : GoodIn wsL_law (wsX12_init) := ggL_law_X12_init
set_option maxRecDepth 20000 in
theorem ggL_law_X11_feed : GoodIn wsL_law wsX11_feed := goodIn_r _ [194, 15, 20, 195, 196, 197, 198, 31, 199, 69, 68, 1053, 1054, 1055, 1056, 1078, 1079, 1080, 1081, 1082, 1083, 1084, 1085, 1086, 1087, 1088, 1089, 1090, 1091, 1121, 1122] (by decide +kernel) (by decide +kernel)
set_option maxRecDepth 20000 in
theorem gL_law_X11_feed : GoodIn wsL_law (wsV RL 13 RX11 yX11_feed wsX11_feed) := goodIn_app (goodIn_of _ (by decide +kernel)) ggL_law_X11_feed
set_option maxRecDepth 20000 in
theorem ggL_law_X12_feed : GoodIn wsL_law wsX12_feed := goodIn_r _ [203, 180, 1057, 1058, 1059, 1060, 1061, 1062, 1063, 1064, 1065, 1066, 1067, 1068, 1069, 1070, 1071, 1072, 1073, 1074, 1075, 1076, 1077] (by decide +kernel) (by decide +kernel)
set_option maxRecDepth 20000 in
theorem gL_law_X12_feed : GoodIn wsL_law (wsV RL 17 RX12 yX12_feed wsX12_feed) := goodIn_app (goodIn_of _ (by decide +kernel)) ggL_law_X12_feed
set_option maxRecDepth 20000 in
theorem ggL_law_X11_end : GoodIn wsL_law wsX11_end := goodIn_r _ [207, 15, 20, 195, 1053, 1054, 1055, 1056, 1078, 1079, 1080, 1081, 1082, 1083, 1084, 1085, 1086, 1087, 1088, 1089, 1090, 1091, 1121, 1122] (by decide +kernel) (by decide +kernel)
set_option maxRecDepth 20000 in
theorem gL_law_X11_end : GoodIn wsL_law (wsV RL 18 RX11 yX11_end wsX11_end) := goodIn_app (goodIn_of _ (by decide +kernel)) ggL_law_X11_end
set_option maxRecDepth 20000 in
theorem ggL_law_X12_end : GoodIn wsL_law wsX12_end := goodIn_r _ [211, 180, 1057, 1058, 1059, 1060, 1061, 1062, 1063, 1064, 1065, 1066, 1067, 1068, 1069, 1070, 1071, 1072, 1073, 1074, 1075, 1076, 1077] (by decide +kernel) (by decide +kernel)
set_option maxRecDepth 20000 in
theorem gL_law_X12_end : GoodIn wsL_law (wsV RL 22 RX12 yX12_end wsX12_end) := goodIn_app (goodIn_of _ (by decide +kernel)) ggL_law_X12_end
set_option maxRecDepth 20000 in
theorem ggL_law_X11_decree : GoodIn wsL_law wsX11_decree := goodIn_r _ [215, 21, 15, 20, 195, 216, 217, 218, 219, 220, 221, 222, 223, 224, 225, 19, 226, 146, 227, 136, 133, 228, 134, 135, 229, 230, 231, 232, 233, 132, 234, 137, 138, 235, 236, 237, 145, 238, 153, 155, 239, 240, 152, 151, 241, 242, 243, 244, 245, 246, 247, 2, 248, 249, 250, 251, 252, 253, 254, 255, 256, 257, 258, 259, 260, 261, 262, 263, 264, 265, 266, 267, 268, 269, 270, 271, 272, 273, 274, 275, 276, 277, 278, 279, 280, 281, 282, 283, 284, 285, 286, 287, 288, 289, 290, 291, 292, 293, 294, 295, 296, 297, 298, 299, 300, 301, 302, 303, 304, 305, 306, 307, 308, 309, 310, 311, 312, 313, 314, 315, 316, 154, 317, 318, 319, 320, 321, 322, 323, 324, 325, 326, 327, 328, 329, 330, 331, 332, 142, 333, 334, 335, 336, 337, 338, 339, 35, 340, 75, 76, 77, 341, 342, 343, 344, 73, 345, 346, 347, 348, 139, 349, 350, 351, 352, 140, 353, 354, 355, 356, 357, 358, 359, 360, 78, 79, 80, 81, 361, 362, 363, 364, 141, 365, 366, 367, 368, 369, 370, 371, 372, 373, 374, 375, 376, 377, 378, 379, 380, 381, 382, 383, 384, 385, 386, 387, 388, 389, 390, 391, 392, 1053, 1054, 1055, 1056, 1078, 1079, 1080, 1081, 1082, 1083, 1084, 1085, 1086, 1087, 1088, 1089, 1090, 1091, 1121, 1122, 1092, 1093, 1094, 1095, 1096, 1097, 1098, 1099, 1100, 1101, 1102, 1103, 1123, 1124, 1125, 1126, 1127, 1128, 1129, 1130, 1161, 1162, 1163, 1164, 1165] (by decide +kernel) (by decide +kernel)
set_option maxRecDepth 20000 in
theorem gL_law_X11_decree : GoodIn wsL_law (wsV RL 23 RX11 yX11_decree wsX11_decree) := goodIn_app (goodIn_of _ (by decide +kernel)) ggL_law_X11_decree
set_option maxRecDepth 20000 in
theorem ggL_law_X12_decree : GoodIn wsL_law wsX12_decree := goodIn_r _ [396, 180, 397, 398, 399, 400, 401, 183, 402, 403, 404, 5, 405, 406, 407, 408, 409, 410, 411, 412, 413, 414, 415, 416, 417, 418, 419, 420, 421, 422, 423, 424, 425, 426, 427, 428, 429, 430, 431, 432, 433, 434, 435, 436, 437, 438, 439, 440, 441, 184, 442, 443, 444, 445, 446, 447, 448, 449, 450, 451, 452, 453, 454, 455, 456, 457, 458, 459, 460, 461, 462, 463, 464, 465, 466, 467, 468, 469, 470, 471, 472, 1057, 1058, 1059, 1060, 1061, 1062, 1063, 1064, 1065, 1066, 1067, 1068, 1069, 1070, 1071, 1072, 1073, 1074, 1075, 1076, 1077] (by decide +kernel) (by decide +kernel)
set_option maxRecDepth 20000 in
theorem gL_law_X12_decree : GoodIn wsL_law (wsV RL 27 RX12 yX12_decree wsX12_decree) := goodIn_app (goodIn_of _ (by decide +kernel)) ggL_law_X12_decree
set_option maxRecDepth 20000 in
theorem ggL_law_X11_fault : GoodIn wsL_law wsX11_fault := goodIn_r _ [476, 15, 217, 219, 1053, 1054, 1055, 1056, 1078, 1079, 1080, 1081, 1082, 1083, 1084, 1085, 1086, 1087, 1088, 1089, 1090, 1091] (by decide +kernel) (by decide +kernel)
set_option maxRecDepth 20000 in
theorem gL_law_X11_fault : GoodIn wsL_law (wsV RL 28 RX11 yX11_fault wsX11_fault) := goodIn_app (goodIn_of _ (by decide +kernel)) ggL_law_X11_fault
set_option maxRecDepth 20000 in
theorem ggL_law_X12_fault : GoodIn wsL_law wsX12_fault := goodIn_r _ [480, 180, 1057, 1058, 1059, 1060, 1061, 1062, 1063, 1064, 1065, 1066, 1067, 1068, 1069, 1070, 1071, 1072, 1073, 1074, 1075, 1076, 1077] (by decide +kernel) (by decide +kernel)
set_option maxRecDepth 20000 in
theorem gL_law_X12_fault : GoodIn wsL_law (wsV RL 31 RX12 yX12_fault wsX12_fault) := goodIn_app (goodIn_of _ (by decide +kernel)) ggL_law_X12_fault
set_option maxRecDepth 20000 in
theorem ggL_law_X11_citizen : GoodIn wsL_law wsX11_citizen := goodIn_r _ [484, 15, 485, 486, 247, 2, 248, 487, 488, 489, 39, 490, 85, 86, 87, 1053, 1054, 1055, 1056, 1078, 1079, 1080, 1081, 1082, 1083, 1084, 1085, 1086, 1087, 1088, 1089, 1090, 1091, 1131, 1132, 1133, 1134, 1135, 1136, 1137, 1138, 1139, 1140] (by decide +kernel) (by decide +kernel)
set_option maxRecDepth 20000 in
theorem gL_law_X11_citizen : GoodIn wsL_law (wsV RL 32 RX11 yX11_citizen wsX11_citizen) := goodIn_app (goodIn_of _ (by decide +kernel)) ggL_law_X11_citizen
set_option maxRecDepth 20000 in
theorem ggL_law_X12_citizen : GoodIn wsL_law wsX12_citizen := goodIn_r _ [494, 180, 454, 455, 5, 456, 1057, 1058, 1059, 1060, 1061, 1062, 1063, 1064, 1065, 1066, 1067, 1068, 1069, 1070, 1071, 1072, 1073, 1074, 1075, 1076, 1077] (by decide +kernel) (by decide +kernel)
set_option maxRecDepth 20000 in
theorem gL_law_X12_citizen : GoodIn wsL_law (wsV RL 36 RX12 yX12_citizen wsX12_citizen) := goodIn_app (goodIn_of _ (by decide +kernel)) ggL_law_X12_citizen
set_option maxRecDepth 20000 in
theorem ggL_law_X11_rule : GoodIn wsL_law wsX11_rule := goodIn_r _ [498, 15, 499, 500, 501, 502, 43, 503, 98, 99, 100, 101, 504, 505, 506, 247, 2, 248, 1053, 1054, 1055, 1056, 1078, 1079, 1080, 1081, 1082, 1083, 1084, 1085, 1086, 1087, 1088, 1089, 1090, 1091, 1141, 1142, 1143, 1144] (by decide +kernel) (by decide +kernel)
set_option maxRecDepth 20000 in
theorem gL_law_X11_rule : GoodIn wsL_law (wsV RL 37 RX11 yX11_rule wsX11_rule) := goodIn_app (goodIn_of _ (by decide +kernel)) ggL_law_X11_rule
set_option maxRecDepth 20000 in
theorem ggL_law_X12_rule : GoodIn wsL_law wsX12_rule := goodIn_r _ [510, 180, 454, 455, 5, 456, 511, 512, 513, 1057, 1058, 1059, 1060, 1061, 1062, 1063, 1064, 1065, 1066, 1067, 1068, 1069, 1070, 1071, 1072, 1073, 1074, 1075, 1076, 1077] (by decide +kernel) (by decide +kernel)
set_option maxRecDepth 20000 in
theorem gL_law_X12_rule : GoodIn wsL_law (wsV RL 41 RX12 yX12_rule wsX12_rule) := goodIn_app (goodIn_of _ (by decide +kernel)) ggL_law_X12_rule
set_option maxRecDepth 20000 in
theorem ggL_law_X11_give : GoodIn wsL_law wsX11_give := goodIn_r _ [517, 15, 518, 519, 486, 247, 2, 248, 520, 521, 522, 14, 523, 40, 524, 525, 61, 526, 527, 528, 529, 36, 59, 62, 530, 531, 532, 35, 533, 73, 75, 76, 534, 535, 536, 537, 77, 79, 80, 81, 78, 538, 539, 540, 541, 542, 543, 544, 545, 546, 547, 548, 549, 39, 550, 85, 89, 93, 94, 88, 551, 552, 553, 554, 386, 387, 388, 342, 343, 344, 389, 390, 391, 392, 1053, 1054, 1055, 1056, 1078, 1079, 1080, 1081, 1082, 1083, 1084, 1085, 1086, 1087, 1088, 1089, 1090, 1091, 1131, 1132, 1133, 1134, 1135, 1136, 1137, 1138, 1139, 1140, 1123, 1124, 1125, 1126, 1127, 1128, 1129, 1130] (by decide +kernel) (by decide +kernel)
set_option maxRecDepth 20000 in
theorem gL_law_X11_give : GoodIn wsL_law (wsV RL 42 RX11 yX11_give wsX11_give) := goodIn_app (goodIn_of _ (by decide +kernel)) ggL_law_X11_give
set_option maxRecDepth 20000 in
theorem ggL_law_X12_give : GoodIn wsL_law wsX12_give := goodIn_r _ [558, 180, 186, 185, 559, 560, 561, 5, 562, 563, 564, 565, 566, 567, 568, 569, 570, 571, 572, 573, 574, 454, 455, 456, 1057, 1058, 1059, 1060, 1061, 1062, 1063, 1064, 1065, 1066, 1067, 1068, 1069, 1070, 1071, 1072, 1073, 1074, 1075, 1076, 1077] (by decide +kernel) (by decide +kernel)
set_option maxRecDepth 20000 in
theorem gL_law_X12_give : GoodIn wsL_law (wsV RL 46 RX12 yX12_give wsX12_give) := goodIn_app (goodIn_of _ (by decide +kernel)) ggL_law_X12_give
set_option maxRecDepth 20000 in
theorem ggL_law_X11_sell : GoodIn wsL_law wsX11_sell := goodIn_r _ [578, 15, 518, 485, 579, 580, 581, 582, 39, 583, 584, 585, 586, 587, 85, 247, 2, 248, 486, 588, 589, 590, 14, 591, 40, 592, 48, 593, 594, 595, 47, 596, 105, 111, 597, 598, 599, 600, 107, 110, 601, 602, 603, 604, 90, 1053, 1054, 1055, 1056, 1078, 1079, 1080, 1081, 1082, 1083, 1084, 1085, 1086, 1087, 1088, 1089, 1090, 1091, 1131, 1132, 1133, 1134, 1135, 1136, 1137, 1138, 1139, 1140, 1145, 1146, 1147, 1148, 1149, 1150, 1151, 1152, 1153, 1154] (by decide +kernel) (by decide +kernel)
set_option maxRecDepth 20000 in
theorem gL_law_X11_sell : GoodIn wsL_law (wsV RL 47 RX11 yX11_sell wsX11_sell) := goodIn_app (goodIn_of _ (by decide +kernel)) ggL_law_X11_sell
set_option maxRecDepth 20000 in
theorem ggL_law_X12_sell : GoodIn wsL_law wsX12_sell := goodIn_r _ [608, 180, 609, 610, 611, 5, 612, 454, 455, 456, 613, 614, 615, 616, 571, 572, 573, 574, 617, 618, 619, 620, 621, 622, 623, 624, 625, 626, 627, 628, 1057, 1058, 1059, 1060, 1061, 1062, 1063, 1064, 1065, 1066, 1067, 1068, 1069, 1070, 1071, 1072, 1073, 1074, 1075, 1076, 1077] (by decide +kernel) (by decide +kernel)
set_option maxRecDepth 20000 in
theorem gL_law_X12_sell : GoodIn wsL_law (wsV RL 51 RX12 yX12_sell wsX12_sell) := goodIn_app (goodIn_of _ (by decide +kernel)) ggL_law_X12_sell
set_option maxRecDepth 20000 in
theorem ggL_law_X11_bale : GoodIn wsL_law wsX11_bale := goodIn_r _ [632, 15, 518, 485, 633, 634, 585, 586, 39, 587, 85, 247, 2, 248, 486, 635, 636, 637, 47, 638, 105, 106, 107, 108, 109, 110, 114, 639, 640, 641, 642, 111, 112, 1053, 1054, 1055, 1056, 1078, 1079, 1080, 1081, 1082, 1083, 1084, 1085, 1086, 1087, 1088, 1089, 1090, 1091, 1131, 1132, 1133, 1134, 1135, 1136, 1137, 1138, 1139, 1140, 1145, 1146, 1147, 1148, 1149, 1150, 1151, 1152, 1153, 1154] (by decide +kernel) (by decide +kernel)
set_option maxRecDepth 20000 in
theorem gL_law_X11_bale : GoodIn wsL_law (wsV RL 52 RX11 yX11_bale wsX11_bale) := goodIn_app (goodIn_of _ (by decide +kernel)) ggL_law_X11_bale
set_option maxRecDepth 20000 in
theorem ggL_law_X12_bale : GoodIn wsL_law wsX12_bale := goodIn_r _ [646, 180, 609, 610, 611, 5, 612, 454, 455, 456, 647, 648, 649, 650, 1057, 1058, 1059, 1060, 1061, 1062, 1063, 1064, 1065, 1066, 1067, 1068, 1069, 1070, 1071, 1072, 1073, 1074, 1075, 1076, 1077] (by decide +kernel) (by decide +kernel)
set_option maxRecDepth 20000 in
theorem gL_law_X12_bale : GoodIn wsL_law (wsV RL 56 RX12 yX12_bale wsX12_bale) := goodIn_app (goodIn_of _ (by decide +kernel)) ggL_law_X12_bale
set_option maxRecDepth 20000 in
theorem ggL_law_X11_press : GoodIn wsL_law wsX11_press := goodIn_r _ [654, 15, 518, 633, 655, 656, 657, 658, 47, 659, 111, 660, 661, 662, 663, 105, 247, 2, 248, 486, 1053, 1054, 1055, 1056, 1078, 1079, 1080, 1081, 1082, 1083, 1084, 1085, 1086, 1087, 1088, 1089, 1090, 1091, 1145, 1146, 1147, 1148, 1149, 1150, 1151, 1152, 1153, 1154] (by decide +kernel) (by decide +kernel)
set_option maxRecDepth 20000 in
theorem gL_law_X11_press : GoodIn wsL_law (wsV RL 57 RX11 yX11_press wsX11_press) := goodIn_app (goodIn_of _ (by decide +kernel)) ggL_law_X11_press
set_option maxRecDepth 20000 in
theorem ggL_law_X12_press : GoodIn wsL_law wsX12_press := goodIn_r _ [667, 180, 668, 669, 670, 5, 671, 454, 455, 456, 672, 673, 674, 675, 617, 618, 619, 620, 647, 648, 649, 650, 1057, 1058, 1059, 1060, 1061, 1062, 1063, 1064, 1065, 1066, 1067, 1068, 1069, 1070, 1071, 1072, 1073, 1074, 1075, 1076, 1077] (by decide +kernel) (by decide +kernel)
set_option maxRecDepth 20000 in
theorem gL_law_X12_press : GoodIn wsL_law (wsV RL 60 RX12 yX12_press wsX12_press) := goodIn_app (goodIn_of _ (by decide +kernel)) ggL_law_X12_press
set_option maxRecDepth 20000 in
theorem ggL_law_X11_lade : GoodIn wsL_law wsX11_lade := goodIn_r _ [679, 15, 518, 486, 247, 2, 248, 680, 681, 682, 14, 683, 48, 40, 684, 685, 686, 657, 658, 47, 659, 111, 660, 661, 662, 663, 105, 687, 585, 586, 39, 587, 85, 688, 598, 599, 600, 107, 110, 689, 589, 590, 591, 592, 593, 594, 595, 596, 597, 1053, 1054, 1055, 1056, 1078, 1079, 1080, 1081, 1082, 1083, 1084, 1085, 1086, 1087, 1088, 1089, 1090, 1091, 1145, 1146, 1147, 1148, 1149, 1150, 1151, 1152, 1153, 1154, 1131, 1132, 1133, 1134, 1135, 1136, 1137, 1138, 1139, 1140] (by decide +kernel) (by decide +kernel)
set_option maxRecDepth 20000 in
theorem gL_law_X11_lade : GoodIn wsL_law (wsV RL 61 RX11 yX11_lade wsX11_lade) := goodIn_app (goodIn_of _ (by decide +kernel)) ggL_law_X11_lade
set_option maxRecDepth 20000 in
theorem ggL_law_X12_lade : GoodIn wsL_law wsX12_lade := goodIn_r _ [693, 180, 668, 669, 670, 5, 671, 454, 455, 456, 672, 673, 674, 675, 617, 618, 619, 620, 609, 610, 611, 612, 621, 622, 623, 624, 613, 614, 615, 616, 571, 572, 573, 574, 647, 648, 649, 650, 1057, 1058, 1059, 1060, 1061, 1062, 1063, 1064, 1065, 1066, 1067, 1068, 1069, 1070, 1071, 1072, 1073, 1074, 1075, 1076, 1077] (by decide +kernel) (by decide +kernel)
set_option maxRecDepth 20000 in
theorem gL_law_X12_lade : GoodIn wsL_law (wsV RL 65 RX12 yX12_lade wsX12_lade) := goodIn_app (goodIn_of _ (by decide +kernel)) ggL_law_X12_lade
set_option maxRecDepth 20000 in
theorem ggL_law_X11_unlade : GoodIn wsL_law wsX11_unlade := goodIn_r _ [697, 15, 518, 633, 698, 699, 700, 47, 701, 111, 660, 661, 662, 663, 105, 247, 2, 248, 702, 640, 641, 642, 112, 1053, 1054, 1055, 1056, 1078, 1079, 1080, 1081, 1082, 1083, 1084, 1085, 1086, 1087, 1088, 1089, 1090, 1091, 1145, 1146, 1147, 1148, 1149, 1150, 1151, 1152, 1153, 1154] (by decide +kernel) (by decide +kernel)
set_option maxRecDepth 20000 in
theorem gL_law_X11_unlade : GoodIn wsL_law (wsV RL 66 RX11 yX11_unlade wsX11_unlade) := goodIn_app (goodIn_of _ (by decide +kernel)) ggL_law_X11_unlade
set_option maxRecDepth 20000 in
theorem ggL_law_X12_unlade : GoodIn wsL_law wsX12_unlade := goodIn_r _ [706, 180, 668, 669, 670, 5, 671, 454, 455, 456, 672, 673, 674, 675, 617, 618, 619, 620, 647, 648, 649, 650, 1057, 1058, 1059, 1060, 1061, 1062, 1063, 1064, 1065, 1066, 1067, 1068, 1069, 1070, 1071, 1072, 1073, 1074, 1075, 1076, 1077] (by decide +kernel) (by decide +kernel)
set_option maxRecDepth 20000 in
theorem gL_law_X12_unlade : GoodIn wsL_law (wsV RL 69 RX12 yX12_unlade wsX12_unlade) := goodIn_app (goodIn_of _ (by decide +kernel)) ggL_law_X12_unlade
