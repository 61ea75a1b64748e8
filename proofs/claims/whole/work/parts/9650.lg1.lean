set_option maxRecDepth 20000 in
theorem ggL_law_X11_init : GoodIn wsL_law wsX11_init := goodIn_r _ [8, 9, 10, 11, 12, 13, 14, 15, 16, 17, 18, 19, 20, 21, 22, 23, 24, 25, 26, 27, 28, 29, 30, 31, 32, 33, 34, 35, 36, 37, 38, 39, 40, 41, 42, 43, 44, 45, 46, 47, 48, 49, 50, 51, 52, 53, 54, 55, 56, 57, 58, 59, 60, 61, 62, 63, 64, 65, 66, 67, 68, 69, 70, 71, 72, 73, 74, 75, 76, 77, 78, 79, 80, 81, 82, 83, 84, 85, 86, 87, 88, 89, 90, 91, 92, 93, 94, 95, 96, 97, 98, 99, 100, 101, 102, 103, 104, 105, 106, 107, 108, 109, 110, 111, 112, 113, 114, 115, 116, 117, 118, 119, 120, 121, 122, 123, 124, 125, 126, 127, 128, 129, 130, 131, 132, 133, 134, 135, 136, 137, 138, 139, 140, 141, 142, 143, 144, 145, 146, 147, 148, 149, 150, 151, 152, 153, 154, 155, 156, 157, 158, 159, 160, 161, 162, 163, 164, 165, 166, 167, 168, 169, 170, 171, 172, 173, 1081, 1082, 1083, 1084, 1085, 1086, 1087, 1088, 1089, 1090, 1091, 1092, 1093, 1094, 1056, 1057, 1058, 1059, 1095, 1096, 1097, 1098, 1099, 1100, 1101, 1102, 1103, 1104, 1105, 1106, 1107, 1108, 1109, 1110, 1111, 1112, 1113, 1114, 1115, 1116, 1117, 1118, 1119, 1120, 1121, 1122, 1123, 1124, 1125, 1126, 1127, 1128, 1129, 1130, 1131, 1132, 1133, 1134, 1135, 1136, 1137, 1138, 1139, 1140, 1141, 1142, 1143, 1144, 1145, 1146, 1147, 1148, 1149, 1150, 1151, 1152, 1153, 1154, 1155, 1156, 1157, 1158, 1159, 1160, 1161, 1162, 1163, 1164, 1165, 1166, 1167, 1168] (by decide +kernel) (by decide +kernel)
set_option maxRecDepth 20000 in
theorem gL_law_X11_init : GoodIn wsL_law (wsX11_init) := ggL_law_X11_init
set_option maxRecDepth 20000 in
theorem ggL_law_X12_init : GoodIn wsL_law wsX12_init := goodIn_r _ [176, 177, 10, 11, 73, 178, 179, 180, 181, 182, 183, 184, 185, 186, 187, 188, 1060, 1061, 1062, 1063, 1064, 1065, 1066, 1067, 1068, 1069, 1070, 1071, 1072, 1073, 1074, 1075, 1076, 1077, 1078, 1079, 1080] (by decide +kernel) (by decide +kernel)
set_option maxRecDepth 20000 in
theorem gL_law_X12_init : GoodIn wsL_law (wsX12_init) := ggL_law_X12_init
set_option maxRecDepth 20000 in
theorem ggL_law_X11_feed : GoodIn wsL_law wsX11_feed := goodIn_r _ [192, 15, 193, 194, 195, 196, 197, 30, 198, 68, 67, 1056, 1057, 1058, 1059, 1081, 1082, 1083, 1084, 1085, 1086, 1087, 1088, 1089, 1090, 1091, 1092, 1093, 1094, 1124, 1125] (by decide +kernel) (by decide +kernel)
set_option maxRecDepth 20000 in
theorem gL_law_X11_feed : GoodIn wsL_law (wsV RL 13 RX11 yX11_feed wsX11_feed) := goodIn_app (goodIn_of _ (by decide +kernel)) ggL_law_X11_feed
set_option maxRecDepth 20000 in
theorem ggL_law_X12_feed : GoodIn wsL_law wsX12_feed := goodIn_r _ [202, 178, 1060, 1061, 1062, 1063, 1064, 1065, 1066, 1067, 1068, 1069, 1070, 1071, 1072, 1073, 1074, 1075, 1076, 1077, 1078, 1079, 1080] (by decide +kernel) (by decide +kernel)
set_option maxRecDepth 20000 in
theorem gL_law_X12_feed : GoodIn wsL_law (wsV RL 17 RX12 yX12_feed wsX12_feed) := goodIn_app (goodIn_of _ (by decide +kernel)) ggL_law_X12_feed
set_option maxRecDepth 20000 in
theorem ggL_law_X11_end : GoodIn wsL_law wsX11_end := goodIn_r _ [206, 15, 193, 194, 1056, 1057, 1058, 1059, 1081, 1082, 1083, 1084, 1085, 1086, 1087, 1088, 1089, 1090, 1091, 1092, 1093, 1094, 1124, 1125] (by decide +kernel) (by decide +kernel)
set_option maxRecDepth 20000 in
theorem gL_law_X11_end : GoodIn wsL_law (wsV RL 18 RX11 yX11_end wsX11_end) := goodIn_app (goodIn_of _ (by decide +kernel)) ggL_law_X11_end
set_option maxRecDepth 20000 in
theorem ggL_law_X12_end : GoodIn wsL_law wsX12_end := goodIn_r _ [210, 178, 1060, 1061, 1062, 1063, 1064, 1065, 1066, 1067, 1068, 1069, 1070, 1071, 1072, 1073, 1074, 1075, 1076, 1077, 1078, 1079, 1080] (by decide +kernel) (by decide +kernel)
set_option maxRecDepth 20000 in
theorem gL_law_X12_end : GoodIn wsL_law (wsV RL 22 RX12 yX12_end wsX12_end) := goodIn_app (goodIn_of _ (by decide +kernel)) ggL_law_X12_end
set_option maxRecDepth 20000 in
theorem ggL_law_X11_decree : GoodIn wsL_law wsX11_decree := goodIn_r _ [214, 20, 15, 193, 194, 215, 216, 217, 218, 219, 220, 221, 222, 223, 224, 19, 225, 132, 226, 138, 135, 227, 136, 137, 228, 229, 230, 231, 134, 232, 139, 140, 233, 234, 235, 131, 236, 149, 152, 237, 238, 239, 30, 240, 68, 67, 241, 242, 243, 244, 245, 246, 247, 248, 249, 250, 151, 150, 251, 252, 253, 254, 255, 256, 257, 2, 258, 259, 260, 261, 262, 263, 264, 265, 266, 267, 268, 269, 270, 271, 272, 273, 274, 275, 276, 277, 278, 279, 280, 281, 282, 283, 284, 285, 286, 287, 288, 289, 290, 291, 292, 293, 294, 295, 296, 297, 298, 299, 300, 301, 302, 303, 304, 305, 306, 307, 308, 309, 310, 311, 312, 313, 314, 315, 316, 317, 318, 319, 320, 321, 322, 323, 324, 325, 326, 153, 327, 328, 329, 330, 331, 332, 333, 334, 335, 336, 337, 338, 339, 340, 341, 342, 144, 343, 344, 345, 346, 347, 348, 349, 34, 350, 74, 75, 76, 351, 352, 353, 354, 72, 355, 356, 357, 358, 141, 359, 360, 361, 362, 142, 363, 364, 365, 366, 367, 368, 369, 370, 77, 78, 79, 80, 371, 372, 373, 374, 143, 375, 376, 377, 378, 379, 380, 381, 382, 383, 384, 385, 386, 387, 388, 389, 390, 391, 392, 393, 394, 395, 396, 397, 398, 399, 1056, 1057, 1058, 1059, 1081, 1082, 1083, 1084, 1085, 1086, 1087, 1088, 1089, 1090, 1091, 1092, 1093, 1094, 1124, 1125, 1095, 1096, 1097, 1098, 1099, 1100, 1101, 1102, 1103, 1104, 1105, 1106, 1126, 1127, 1128, 1129, 1130, 1131, 1132, 1133, 1164, 1165, 1166, 1167, 1168] (by decide +kernel) (by decide +kernel)
set_option maxRecDepth 20000 in
theorem gL_law_X11_decree : GoodIn wsL_law (wsV RL 23 RX11 yX11_decree wsX11_decree) := goodIn_app (goodIn_of _ (by decide +kernel)) ggL_law_X11_decree
set_option maxRecDepth 20000 in
theorem ggL_law_X12_decree : GoodIn wsL_law wsX12_decree := goodIn_r _ [403, 178, 404, 405, 406, 407, 408, 181, 409, 410, 411, 5, 412, 413, 414, 415, 416, 417, 418, 419, 420, 421, 422, 423, 424, 425, 426, 427, 428, 429, 430, 431, 432, 433, 434, 435, 436, 437, 438, 439, 440, 441, 442, 443, 444, 445, 446, 447, 448, 182, 449, 450, 451, 452, 453, 454, 455, 456, 457, 458, 459, 460, 461, 462, 463, 464, 465, 466, 467, 468, 469, 470, 471, 472, 473, 474, 475, 476, 477, 478, 479, 1060, 1061, 1062, 1063, 1064, 1065, 1066, 1067, 1068, 1069, 1070, 1071, 1072, 1073, 1074, 1075, 1076, 1077, 1078, 1079, 1080] (by decide +kernel) (by decide +kernel)
set_option maxRecDepth 20000 in
theorem gL_law_X12_decree : GoodIn wsL_law (wsV RL 27 RX12 yX12_decree wsX12_decree) := goodIn_app (goodIn_of _ (by decide +kernel)) ggL_law_X12_decree
set_option maxRecDepth 20000 in
theorem ggL_law_X11_fault : GoodIn wsL_law wsX11_fault := goodIn_r _ [483, 15, 216, 218, 1056, 1057, 1058, 1059, 1081, 1082, 1083, 1084, 1085, 1086, 1087, 1088, 1089, 1090, 1091, 1092, 1093, 1094] (by decide +kernel) (by decide +kernel)
set_option maxRecDepth 20000 in
theorem gL_law_X11_fault : GoodIn wsL_law (wsV RL 28 RX11 yX11_fault wsX11_fault) := goodIn_app (goodIn_of _ (by decide +kernel)) ggL_law_X11_fault
set_option maxRecDepth 20000 in
theorem ggL_law_X12_fault : GoodIn wsL_law wsX12_fault := goodIn_r _ [487, 178, 1060, 1061, 1062, 1063, 1064, 1065, 1066, 1067, 1068, 1069, 1070, 1071, 1072, 1073, 1074, 1075, 1076, 1077, 1078, 1079, 1080] (by decide +kernel) (by decide +kernel)
set_option maxRecDepth 20000 in
theorem gL_law_X12_fault : GoodIn wsL_law (wsV RL 31 RX12 yX12_fault wsX12_fault) := goodIn_app (goodIn_of _ (by decide +kernel)) ggL_law_X12_fault
set_option maxRecDepth 20000 in
theorem ggL_law_X11_citizen : GoodIn wsL_law wsX11_citizen := goodIn_r _ [491, 15, 492, 493, 257, 2, 258, 494, 495, 496, 38, 497, 84, 85, 86, 1056, 1057, 1058, 1059, 1081, 1082, 1083, 1084, 1085, 1086, 1087, 1088, 1089, 1090, 1091, 1092, 1093, 1094, 1134, 1135, 1136, 1137, 1138, 1139, 1140, 1141, 1142, 1143] (by decide +kernel) (by decide +kernel)
set_option maxRecDepth 20000 in
theorem gL_law_X11_citizen : GoodIn wsL_law (wsV RL 32 RX11 yX11_citizen wsX11_citizen) := goodIn_app (goodIn_of _ (by decide +kernel)) ggL_law_X11_citizen
set_option maxRecDepth 20000 in
theorem ggL_law_X12_citizen : GoodIn wsL_law wsX12_citizen := goodIn_r _ [501, 178, 461, 462, 5, 463, 1060, 1061, 1062, 1063, 1064, 1065, 1066, 1067, 1068, 1069, 1070, 1071, 1072, 1073, 1074, 1075, 1076, 1077, 1078, 1079, 1080] (by decide +kernel) (by decide +kernel)
set_option maxRecDepth 20000 in
theorem gL_law_X12_citizen : GoodIn wsL_law (wsV RL 36 RX12 yX12_citizen wsX12_citizen) := goodIn_app (goodIn_of _ (by decide +kernel)) ggL_law_X12_citizen
set_option maxRecDepth 20000 in
theorem ggL_law_X11_rule : GoodIn wsL_law wsX11_rule := goodIn_r _ [505, 15, 506, 507, 508, 509, 42, 510, 97, 98, 99, 100, 511, 512, 513, 257, 2, 258, 1056, 1057, 1058, 1059, 1081, 1082, 1083, 1084, 1085, 1086, 1087, 1088, 1089, 1090, 1091, 1092, 1093, 1094, 1144, 1145, 1146, 1147] (by decide +kernel) (by decide +kernel)
set_option maxRecDepth 20000 in
theorem gL_law_X11_rule : GoodIn wsL_law (wsV RL 37 RX11 yX11_rule wsX11_rule) := goodIn_app (goodIn_of _ (by decide +kernel)) ggL_law_X11_rule
set_option maxRecDepth 20000 in
theorem ggL_law_X12_rule : GoodIn wsL_law wsX12_rule := goodIn_r _ [517, 178, 461, 462, 5, 463, 518, 519, 520, 1060, 1061, 1062, 1063, 1064, 1065, 1066, 1067, 1068, 1069, 1070, 1071, 1072, 1073, 1074, 1075, 1076, 1077, 1078, 1079, 1080] (by decide +kernel) (by decide +kernel)
set_option maxRecDepth 20000 in
theorem gL_law_X12_rule : GoodIn wsL_law (wsV RL 41 RX12 yX12_rule wsX12_rule) := goodIn_app (goodIn_of _ (by decide +kernel)) ggL_law_X12_rule
set_option maxRecDepth 20000 in
theorem ggL_law_X11_give : GoodIn wsL_law wsX11_give := goodIn_r _ [524, 15, 525, 526, 493, 257, 2, 258, 527, 528, 529, 14, 530, 39, 531, 532, 60, 533, 534, 535, 536, 35, 58, 61, 537, 538, 539, 34, 540, 72, 74, 75, 541, 542, 543, 544, 76, 78, 79, 80, 77, 545, 546, 547, 548, 549, 550, 551, 552, 553, 554, 555, 556, 38, 557, 84, 88, 92, 93, 87, 558, 559, 560, 561, 396, 397, 398, 352, 353, 354, 399, 242, 243, 244, 1056, 1057, 1058, 1059, 1081, 1082, 1083, 1084, 1085, 1086, 1087, 1088, 1089, 1090, 1091, 1092, 1093, 1094, 1134, 1135, 1136, 1137, 1138, 1139, 1140, 1141, 1142, 1143, 1126, 1127, 1128, 1129, 1130, 1131, 1132, 1133] (by decide +kernel) (by decide +kernel)
set_option maxRecDepth 20000 in
theorem gL_law_X11_give : GoodIn wsL_law (wsV RL 42 RX11 yX11_give wsX11_give) := goodIn_app (goodIn_of _ (by decide +kernel)) ggL_law_X11_give
set_option maxRecDepth 20000 in
theorem ggL_law_X12_give : GoodIn wsL_law wsX12_give := goodIn_r _ [565, 178, 184, 183, 566, 567, 568, 5, 569, 570, 571, 572, 573, 574, 575, 576, 577, 578, 579, 580, 581, 461, 462, 463, 1060, 1061, 1062, 1063, 1064, 1065, 1066, 1067, 1068, 1069, 1070, 1071, 1072, 1073, 1074, 1075, 1076, 1077, 1078, 1079, 1080] (by decide +kernel) (by decide +kernel)
set_option maxRecDepth 20000 in
theorem gL_law_X12_give : GoodIn wsL_law (wsV RL 46 RX12 yX12_give wsX12_give) := goodIn_app (goodIn_of _ (by decide +kernel)) ggL_law_X12_give
set_option maxRecDepth 20000 in
theorem ggL_law_X11_sell : GoodIn wsL_law wsX11_sell := goodIn_r _ [585, 15, 525, 492, 586, 587, 588, 589, 38, 590, 591, 592, 593, 594, 84, 257, 2, 258, 493, 595, 596, 597, 14, 598, 39, 599, 47, 600, 601, 602, 46, 603, 104, 110, 604, 605, 606, 607, 106, 109, 608, 609, 610, 611, 89, 1056, 1057, 1058, 1059, 1081, 1082, 1083, 1084, 1085, 1086, 1087, 1088, 1089, 1090, 1091, 1092, 1093, 1094, 1134, 1135, 1136, 1137, 1138, 1139, 1140, 1141, 1142, 1143, 1148, 1149, 1150, 1151, 1152, 1153, 1154, 1155, 1156, 1157] (by decide +kernel) (by decide +kernel)
set_option maxRecDepth 20000 in
theorem gL_law_X11_sell : GoodIn wsL_law (wsV RL 47 RX11 yX11_sell wsX11_sell) := goodIn_app (goodIn_of _ (by decide +kernel)) ggL_law_X11_sell
set_option maxRecDepth 20000 in
theorem ggL_law_X12_sell : GoodIn wsL_law wsX12_sell := goodIn_r _ [615, 178, 616, 617, 618, 5, 619, 461, 462, 463, 620, 621, 622, 623, 578, 579, 580, 581, 624, 625, 626, 627, 628, 629, 630, 631, 632, 633, 634, 635, 1060, 1061, 1062, 1063, 1064, 1065, 1066, 1067, 1068, 1069, 1070, 1071, 1072, 1073, 1074, 1075, 1076, 1077, 1078, 1079, 1080] (by decide +kernel) (by decide +kernel)
set_option maxRecDepth 20000 in
theorem gL_law_X12_sell : GoodIn wsL_law (wsV RL 51 RX12 yX12_sell wsX12_sell) := goodIn_app (goodIn_of _ (by decide +kernel)) ggL_law_X12_sell
set_option maxRecDepth 20000 in
theorem ggL_law_X11_bale : GoodIn wsL_law wsX11_bale := goodIn_r _ [639, 15, 525, 492, 640, 641, 592, 593, 38, 594, 84, 257, 2, 258, 493, 642, 643, 644, 46, 645, 104, 105, 106, 107, 108, 109, 113, 646, 647, 648, 649, 110, 111, 1056, 1057, 1058, 1059, 1081, 1082, 1083, 1084, 1085, 1086, 1087, 1088, 1089, 1090, 1091, 1092, 1093, 1094, 1134, 1135, 1136, 1137, 1138, 1139, 1140, 1141, 1142, 1143, 1148, 1149, 1150, 1151, 1152, 1153, 1154, 1155, 1156, 1157] (by decide +kernel) (by decide +kernel)
set_option maxRecDepth 20000 in
theorem gL_law_X11_bale : GoodIn wsL_law (wsV RL 52 RX11 yX11_bale wsX11_bale) := goodIn_app (goodIn_of _ (by decide +kernel)) ggL_law_X11_bale
set_option maxRecDepth 20000 in
theorem ggL_law_X12_bale : GoodIn wsL_law wsX12_bale := goodIn_r _ [653, 178, 616, 617, 618, 5, 619, 461, 462, 463, 654, 655, 656, 657, 1060, 1061, 1062, 1063, 1064, 1065, 1066, 1067, 1068, 1069, 1070, 1071, 1072, 1073, 1074, 1075, 1076, 1077, 1078, 1079, 1080] (by decide +kernel) (by decide +kernel)
set_option maxRecDepth 20000 in
theorem gL_law_X12_bale : GoodIn wsL_law (wsV RL 56 RX12 yX12_bale wsX12_bale) := goodIn_app (goodIn_of _ (by decide +kernel)) ggL_law_X12_bale
set_option maxRecDepth 20000 in
theorem ggL_law_X11_press : GoodIn wsL_law wsX11_press := goodIn_r _ [661, 15, 525, 640, 662, 663, 664, 665, 46, 666, 110, 667, 668, 669, 670, 104, 257, 2, 258, 493, 1056, 1057, 1058, 1059, 1081, 1082, 1083, 1084, 1085, 1086, 1087, 1088, 1089, 1090, 1091, 1092, 1093, 1094, 1148, 1149, 1150, 1151, 1152, 1153, 1154, 1155, 1156, 1157] (by decide +kernel) (by decide +kernel)
set_option maxRecDepth 20000 in
theorem gL_law_X11_press : GoodIn wsL_law (wsV RL 57 RX11 yX11_press wsX11_press) := goodIn_app (goodIn_of _ (by decide +kernel)) ggL_law_X11_press
set_option maxRecDepth 20000 in
theorem ggL_law_X12_press : GoodIn wsL_law wsX12_press := goodIn_r _ [674, 178, 675, 676, 677, 5, 678, 461, 462, 463, 679, 680, 681, 682, 624, 625, 626, 627, 654, 655, 656, 657, 1060, 1061, 1062, 1063, 1064, 1065, 1066, 1067, 1068, 1069, 1070, 1071, 1072, 1073, 1074, 1075, 1076, 1077, 1078, 1079, 1080] (by decide +kernel) (by decide +kernel)
set_option maxRecDepth 20000 in
theorem gL_law_X12_press : GoodIn wsL_law (wsV RL 60 RX12 yX12_press wsX12_press) := goodIn_app (goodIn_of _ (by decide +kernel)) ggL_law_X12_press
set_option maxRecDepth 20000 in
theorem ggL_law_X11_lade : GoodIn wsL_law wsX11_lade := goodIn_r _ [686, 15, 525, 493, 257, 2, 258, 687, 688, 689, 14, 690, 47, 39, 691, 692, 693, 664, 665, 46, 666, 110, 667, 668, 669, 670, 104, 694, 592, 593, 38, 594, 84, 695, 605, 606, 607, 106, 109, 696, 596, 597, 598, 599, 600, 601, 602, 603, 604, 1056, 1057, 1058, 1059, 1081, 1082, 1083, 1084, 1085, 1086, 1087, 1088, 1089, 1090, 1091, 1092, 1093, 1094, 1148, 1149, 1150, 1151, 1152, 1153, 1154, 1155, 1156, 1157, 1134, 1135, 1136, 1137, 1138, 1139, 1140, 1141, 1142, 1143] (by decide +kernel) (by decide +kernel)
set_option maxRecDepth 20000 in
theorem gL_law_X11_lade : GoodIn wsL_law (wsV RL 61 RX11 yX11_lade wsX11_lade) := goodIn_app (goodIn_of _ (by decide +kernel)) ggL_law_X11_lade
set_option maxRecDepth 20000 in
theorem ggL_law_X12_lade : GoodIn wsL_law wsX12_lade := goodIn_r _ [700, 178, 675, 676, 677, 5, 678, 461, 462, 463, 679, 680, 681, 682, 624, 625, 626, 627, 616, 617, 618, 619, 628, 629, 630, 631, 620, 621, 622, 623, 578, 579, 580, 581, 654, 655, 656, 657, 1060, 1061, 1062, 1063, 1064, 1065, 1066, 1067, 1068, 1069, 1070, 1071, 1072, 1073, 1074, 1075, 1076, 1077, 1078, 1079, 1080] (by decide +kernel) (by decide +kernel)
set_option maxRecDepth 20000 in
theorem gL_law_X12_lade : GoodIn wsL_law (wsV RL 65 RX12 yX12_lade wsX12_lade) := goodIn_app (goodIn_of _ (by decide +kernel)) ggL_law_X12_lade
set_option maxRecDepth 20000 in
theorem ggL_law_X11_unlade : GoodIn wsL_law wsX11_unlade := goodIn_r _ [704, 15, 525, 640, 705, 706, 707, 46, 708, 110, 667, 668, 669, 670, 104, 257, 2, 258, 709, 647, 648, 649, 111, 1056, 1057, 1058, 1059, 1081, 1082, 1083, 1084, 1085, 1086, 1087, 1088, 1089, 1090, 1091, 1092, 1093, 1094, 1148, 1149, 1150, 1151, 1152, 1153, 1154, 1155, 1156, 1157] (by decide +kernel) (by decide +kernel)
set_option maxRecDepth 20000 in
theorem gL_law_X11_unlade : GoodIn wsL_law (wsV RL 66 RX11 yX11_unlade wsX11_unlade) := goodIn_app (goodIn_of _ (by decide +kernel)) ggL_law_X11_unlade
set_option maxRecDepth 20000 in
theorem ggL_law_X12_unlade : GoodIn wsL_law wsX12_unlade := goodIn_r _ [713, 178, 675, 676, 677, 5, 678, 461, 462, 463, 679, 680, 681, 682, 624, 625, 626, 627, 654, 655, 656, 657, 1060, 1061, 1062, 1063, 1064, 1065, 1066, 1067, 1068, 1069, 1070, 1071, 1072, 1073, 1074, 1075, 1076, 1077, 1078, 1079, 1080] (by decide +kernel) (by decide +kernel)
set_option maxRecDepth 20000 in
theorem gL_law_X12_unlade : GoodIn wsL_law (wsV RL 69 RX12 yX12_unlade wsX12_unlade) := goodIn_app (goodIn_of _ (by decide +kernel)) ggL_law_X12_unlade
