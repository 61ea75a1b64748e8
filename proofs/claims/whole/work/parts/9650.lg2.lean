set_option maxRecDepth 20000 in
theorem ggL_law_X11_best : GoodIn wsL_law wsX11_best := goodIn_r _ [717, 15, 525, 640, 24, 718, 719, 720, 721, 722, 46, 723, 104, 724, 664, 665, 666, 110, 667, 668, 669, 670, 257, 2, 258, 725, 726, 727, 23, 728, 729, 730, 169, 731, 170, 171, 732, 733, 166, 734, 735, 596, 597, 14, 598, 39, 599, 47, 600, 601, 602, 603, 604, 605, 606, 607, 106, 109, 736, 737, 738, 739, 157, 740, 158, 159, 741, 160, 161, 162, 742, 163, 164, 165, 743, 744, 745, 746, 747, 748, 108, 749, 750, 751, 752, 753, 754, 755, 756, 111, 107, 757, 758, 759, 760, 761, 762, 763, 167, 764, 765, 766, 767, 768, 769, 353, 770, 172, 173, 771, 772, 773, 774, 168, 396, 397, 398, 352, 354, 399, 242, 243, 244, 775, 776, 777, 778, 112, 113, 779, 780, 781, 1056, 1057, 1058, 1059, 1081, 1082, 1083, 1084, 1085, 1086, 1087, 1088, 1089, 1090, 1091, 1092, 1093, 1094, 1107, 1108, 1109, 1110, 1111, 1112, 1113, 1114, 1115, 1116, 1117, 1118, 1119, 1120, 1121, 1122, 1123, 1148, 1149, 1150, 1151, 1152, 1153, 1154, 1155, 1156, 1157, 1144, 1145, 1146, 1147, 1134, 1135, 1136, 1137, 1138, 1139, 1140, 1141, 1142, 1143] (by decide +kernel) (by decide +kernel)
set_option maxRecDepth 20000 in
theorem gL_law_X11_best : GoodIn wsL_law (wsV RL 70 RX11 yX11_best wsX11_best) := goodIn_app (goodIn_of _ (by decide +kernel)) ggL_law_X11_best
set_option maxRecDepth 20000 in
theorem ggL_law_X12_best : GoodIn wsL_law wsX12_best := goodIn_r _ [785, 178, 185, 186, 786, 787, 187, 679, 680, 681, 5, 682, 624, 625, 626, 627, 788, 789, 790, 791, 188, 620, 621, 622, 623, 578, 579, 580, 581, 628, 629, 630, 631, 792, 793, 794, 795, 796, 797, 798, 799, 800, 801, 802, 803, 804, 805, 806, 807, 461, 462, 463, 808, 809, 810, 811, 654, 655, 656, 657, 1060, 1061, 1062, 1063, 1064, 1065, 1066, 1067, 1068, 1069, 1070, 1071, 1072, 1073, 1074, 1075, 1076, 1077, 1078, 1079, 1080] (by decide +kernel) (by decide +kernel)
set_option maxRecDepth 20000 in
theorem gL_law_X12_best : GoodIn wsL_law (wsV RL 73 RX12 yX12_best wsX12_best) := goodIn_app (goodIn_of _ (by decide +kernel)) ggL_law_X12_best
set_option maxRecDepth 20000 in
theorem ggL_law_X11_bestSide : GoodIn wsL_law wsX11_bestSide := goodIn_r _ [815, 15, 640, 816, 817, 818, 668, 669, 46, 670, 104, 257, 2, 258, 1056, 1057, 1058, 1059, 1081, 1082, 1083, 1084, 1085, 1086, 1087, 1088, 1089, 1090, 1091, 1092, 1093, 1094, 1148, 1149, 1150, 1151, 1152, 1153, 1154, 1155, 1156, 1157] (by decide +kernel) (by decide +kernel)
set_option maxRecDepth 20000 in
theorem gL_law_X11_bestSide : GoodIn wsL_law (wsV RL 74 RX11 yX11_bestSide wsX11_bestSide) := goodIn_app (goodIn_of _ (by decide +kernel)) ggL_law_X11_bestSide
set_option maxRecDepth 20000 in
theorem ggL_law_X12_bestSide : GoodIn wsL_law wsX12_bestSide := goodIn_r _ [822, 178, 675, 676, 677, 5, 678, 461, 462, 463, 624, 625, 626, 627, 1060, 1061, 1062, 1063, 1064, 1065, 1066, 1067, 1068, 1069, 1070, 1071, 1072, 1073, 1074, 1075, 1076, 1077, 1078, 1079, 1080] (by decide +kernel) (by decide +kernel)
set_option maxRecDepth 20000 in
theorem gL_law_X12_bestSide : GoodIn wsL_law (wsV RL 77 RX12 yX12_bestSide wsX12_bestSide) := goodIn_app (goodIn_of _ (by decide +kernel)) ggL_law_X12_bestSide
set_option maxRecDepth 20000 in
theorem ggL_law_X11_ladeBest : GoodIn wsL_law wsX11_ladeBest := goodIn_r _ [826, 15, 525, 640, 816, 827, 817, 828, 687, 688, 689, 14, 690, 47, 39, 691, 692, 693, 664, 665, 46, 666, 110, 667, 668, 669, 670, 104, 257, 2, 258, 694, 592, 593, 38, 594, 84, 695, 605, 606, 607, 106, 109, 696, 596, 597, 598, 599, 600, 601, 602, 603, 604, 1056, 1057, 1058, 1059, 1081, 1082, 1083, 1084, 1085, 1086, 1087, 1088, 1089, 1090, 1091, 1092, 1093, 1094, 1148, 1149, 1150, 1151, 1152, 1153, 1154, 1155, 1156, 1157, 1134, 1135, 1136, 1137, 1138, 1139, 1140, 1141, 1142, 1143] (by decide +kernel) (by decide +kernel)
set_option maxRecDepth 20000 in
theorem gL_law_X11_ladeBest : GoodIn wsL_law (wsV RL 78 RX11 yX11_ladeBest wsX11_ladeBest) := goodIn_app (goodIn_of _ (by decide +kernel)) ggL_law_X11_ladeBest
set_option maxRecDepth 20000 in
theorem ggL_law_X12_ladeBest : GoodIn wsL_law wsX12_ladeBest := goodIn_r _ [832, 178, 624, 625, 626, 5, 627, 833, 698, 699, 700, 675, 676, 677, 678, 461, 462, 463, 679, 680, 681, 682, 616, 617, 618, 619, 628, 629, 630, 631, 620, 621, 622, 623, 578, 579, 580, 581, 654, 655, 656, 657, 1060, 1061, 1062, 1063, 1064, 1065, 1066, 1067, 1068, 1069, 1070, 1071, 1072, 1073, 1074, 1075, 1076, 1077, 1078, 1079, 1080] (by decide +kernel) (by decide +kernel)
set_option maxRecDepth 20000 in
theorem gL_law_X12_ladeBest : GoodIn wsL_law (wsV RL 81 RX12 yX12_ladeBest wsX12_ladeBest) := goodIn_app (goodIn_of _ (by decide +kernel)) ggL_law_X12_ladeBest
set_option maxRecDepth 20000 in
theorem ggL_law_X11_sail : GoodIn wsL_law wsX11_sail := goodIn_r _ [837, 15, 525, 506, 640, 838, 750, 751, 46, 752, 753, 754, 755, 756, 104, 111, 107, 839, 758, 759, 760, 840, 841, 842, 42, 843, 844, 769, 353, 770, 97, 98, 1056, 1057, 1058, 1059, 1081, 1082, 1083, 1084, 1085, 1086, 1087, 1088, 1089, 1090, 1091, 1092, 1093, 1094, 1148, 1149, 1150, 1151, 1152, 1153, 1154, 1155, 1156, 1157, 1144, 1145, 1146, 1147] (by decide +kernel) (by decide +kernel)
set_option maxRecDepth 20000 in
theorem gL_law_X11_sail : GoodIn wsL_law (wsV RL 82 RX11 yX11_sail wsX11_sail) := goodIn_app (goodIn_of _ (by decide +kernel)) ggL_law_X11_sail
set_option maxRecDepth 20000 in
theorem ggL_law_X12_sail : GoodIn wsL_law wsX12_sail := goodIn_r _ [848, 178, 792, 793, 794, 5, 795, 679, 680, 681, 682, 624, 625, 626, 627, 796, 797, 798, 799, 804, 805, 806, 807, 461, 462, 463, 1060, 1061, 1062, 1063, 1064, 1065, 1066, 1067, 1068, 1069, 1070, 1071, 1072, 1073, 1074, 1075, 1076, 1077, 1078, 1079, 1080] (by decide +kernel) (by decide +kernel)
set_option maxRecDepth 20000 in
theorem gL_law_X12_sail : GoodIn wsL_law (wsV RL 86 RX12 yX12_sail wsX12_sail) := goodIn_app (goodIn_of _ (by decide +kernel)) ggL_law_X12_sail
set_option maxRecDepth 20000 in
theorem ggL_law_X11_board : GoodIn wsL_law wsX11_board := goodIn_r _ [852, 15, 640, 506, 853, 854, 855, 856, 46, 857, 104, 858, 706, 707, 708, 110, 667, 668, 669, 670, 257, 2, 258, 859, 746, 747, 748, 108, 109, 1056, 1057, 1058, 1059, 1081, 1082, 1083, 1084, 1085, 1086, 1087, 1088, 1089, 1090, 1091, 1092, 1093, 1094, 1144, 1145, 1146, 1147, 1148, 1149, 1150, 1151, 1152, 1153, 1154, 1155, 1156, 1157] (by decide +kernel) (by decide +kernel)
set_option maxRecDepth 20000 in
theorem gL_law_X11_board : GoodIn wsL_law (wsV RL 87 RX11 yX11_board wsX11_board) := goodIn_app (goodIn_of _ (by decide +kernel)) ggL_law_X11_board
set_option maxRecDepth 20000 in
theorem ggL_law_X12_board : GoodIn wsL_law wsX12_board := goodIn_r _ [863, 178, 461, 462, 5, 463, 679, 680, 681, 682, 624, 625, 626, 627, 800, 801, 802, 803, 1060, 1061, 1062, 1063, 1064, 1065, 1066, 1067, 1068, 1069, 1070, 1071, 1072, 1073, 1074, 1075, 1076, 1077, 1078, 1079, 1080] (by decide +kernel) (by decide +kernel)
set_option maxRecDepth 20000 in
theorem gL_law_X12_board : GoodIn wsL_law (wsV RL 90 RX12 yX12_board wsX12_board) := goodIn_app (goodIn_of _ (by decide +kernel)) ggL_law_X12_board
set_option maxRecDepth 20000 in
theorem ggL_law_X11_loan : GoodIn wsL_law wsX11_loan := goodIn_r _ [867, 15, 525, 492, 868, 587, 588, 589, 38, 590, 591, 592, 593, 594, 84, 257, 2, 258, 493, 869, 870, 871, 50, 872, 117, 118, 119, 120, 121, 608, 609, 610, 611, 89, 1056, 1057, 1058, 1059, 1081, 1082, 1083, 1084, 1085, 1086, 1087, 1088, 1089, 1090, 1091, 1092, 1093, 1094, 1134, 1135, 1136, 1137, 1138, 1139, 1140, 1141, 1142, 1143, 1158, 1159, 1160, 1161, 1162] (by decide +kernel) (by decide +kernel)
set_option maxRecDepth 20000 in
theorem gL_law_X11_loan : GoodIn wsL_law (wsV RL 91 RX11 yX11_loan wsX11_loan) := goodIn_app (goodIn_of _ (by decide +kernel)) ggL_law_X11_loan
set_option maxRecDepth 20000 in
theorem ggL_law_X12_loan : GoodIn wsL_law wsX12_loan := goodIn_r _ [876, 178, 616, 617, 618, 5, 619, 461, 462, 463, 632, 633, 634, 635, 1060, 1061, 1062, 1063, 1064, 1065, 1066, 1067, 1068, 1069, 1070, 1071, 1072, 1073, 1074, 1075, 1076, 1077, 1078, 1079, 1080] (by decide +kernel) (by decide +kernel)
set_option maxRecDepth 20000 in
theorem gL_law_X12_loan : GoodIn wsL_law (wsV RL 94 RX12 yX12_loan wsX12_loan) := goodIn_app (goodIn_of _ (by decide +kernel)) ggL_law_X12_loan
set_option maxRecDepth 20000 in
theorem ggL_law_X11_ends : GoodIn wsL_law wsX11_ends := goodIn_r _ [880, 15, 525, 881, 882, 883, 884, 14, 885, 55, 58, 60, 47, 61, 39, 51, 886, 59, 887, 888, 889, 54, 890, 891, 892, 893, 894, 895, 125, 896, 897, 898, 257, 2, 258, 899, 721, 722, 46, 723, 104, 724, 664, 665, 666, 110, 667, 668, 669, 670, 900, 855, 856, 857, 858, 706, 707, 708, 859, 746, 747, 748, 108, 109, 901, 758, 759, 760, 753, 754, 755, 756, 111, 107, 902, 903, 904, 905, 906, 907, 908, 909, 910, 911, 604, 605, 606, 607, 106, 912, 913, 914, 915, 916, 917, 691, 43, 918, 919, 352, 353, 354, 62, 920, 921, 922, 923, 695, 924, 925, 926, 927, 928, 929, 930, 931, 932, 933, 934, 935, 936, 50, 937, 120, 121, 938, 609, 610, 38, 611, 89, 939, 940, 941, 942, 84, 87, 943, 944, 945, 946, 112, 1056, 1057, 1058, 1059, 1081, 1082, 1083, 1084, 1085, 1086, 1087, 1088, 1089, 1090, 1091, 1092, 1093, 1094, 1158, 1159, 1160, 1161, 1162, 1148, 1149, 1150, 1151, 1152, 1153, 1154, 1155, 1156, 1157, 1163, 1144, 1145, 1146, 1147, 1134, 1135, 1136, 1137, 1138, 1139, 1140, 1141, 1142, 1143] (by decide +kernel) (by decide +kernel)
set_option maxRecDepth 20000 in
theorem gL_law_X11_ends : GoodIn wsL_law (wsV RL 95 RX11 yX11_ends wsX11_ends) := goodIn_app (goodIn_of _ (by decide +kernel)) ggL_law_X11_ends
set_option maxRecDepth 20000 in
theorem ggL_law_X12_ends : GoodIn wsL_law wsX12_ends := goodIn_r _ [950, 178, 679, 680, 681, 5, 682, 624, 625, 626, 627, 800, 801, 802, 803, 628, 629, 630, 631, 951, 952, 953, 954, 632, 633, 634, 635, 955, 956, 957, 958, 1060, 1061, 1062, 1063, 1064, 1065, 1066, 1067, 1068, 1069, 1070, 1071, 1072, 1073, 1074, 1075, 1076, 1077, 1078, 1079, 1080] (by decide +kernel) (by decide +kernel)
set_option maxRecDepth 20000 in
theorem gL_law_X12_ends : GoodIn wsL_law (wsV RL 99 RX12 yX12_ends wsX12_ends) := goodIn_app (goodIn_of _ (by decide +kernel)) ggL_law_X12_ends
set_option maxRecDepth 20000 in
theorem ggL_law_X11_tell : GoodIn wsL_law wsX11_tell := goodIn_r _ [962, 15, 492, 963, 964, 965, 586, 966, 967, 968, 641, 592, 593, 38, 594, 84, 257, 2, 258, 969, 534, 535, 14, 536, 35, 39, 58, 61, 537, 538, 539, 34, 540, 72, 74, 75, 541, 542, 543, 544, 76, 78, 79, 80, 77, 545, 546, 547, 548, 549, 550, 551, 552, 553, 595, 596, 597, 598, 599, 47, 600, 601, 602, 46, 603, 104, 110, 604, 605, 606, 607, 106, 109, 1056, 1057, 1058, 1059, 1081, 1082, 1083, 1084, 1085, 1086, 1087, 1088, 1089, 1090, 1091, 1092, 1093, 1094, 1134, 1135, 1136, 1137, 1138, 1139, 1140, 1141, 1142, 1143, 1126, 1127, 1128, 1129, 1130, 1131, 1132, 1133, 1148, 1149, 1150, 1151, 1152, 1153, 1154, 1155, 1156, 1157] (by decide +kernel) (by decide +kernel)
set_option maxRecDepth 20000 in
theorem gL_law_X11_tell : GoodIn wsL_law (wsV RL 100 RX11 yX11_tell wsX11_tell) := goodIn_app (goodIn_of _ (by decide +kernel)) ggL_law_X11_tell
set_option maxRecDepth 20000 in
theorem ggL_law_X12_tell : GoodIn wsL_law wsX12_tell := goodIn_r _ [973, 974, 616, 617, 618, 5, 619, 178, 461, 462, 463, 578, 579, 580, 581, 566, 567, 568, 569, 570, 571, 572, 573, 574, 575, 576, 577, 620, 621, 622, 623, 624, 625, 626, 627, 628, 629, 630, 631, 1060, 1061, 1062, 1063, 1064, 1065, 1066, 1067, 1068, 1069, 1070, 1071, 1072, 1073, 1074, 1075, 1076, 1077, 1078, 1079, 1080] (by decide +kernel) (by decide +kernel)
set_option maxRecDepth 20000 in
theorem gL_law_X12_tell : GoodIn wsL_law (wsV RL 104 RX12 yX12_tell wsX12_tell) := goodIn_app (goodIn_of _ (by decide +kernel)) ggL_law_X12_tell
set_option maxRecDepth 20000 in
theorem ggL_law_X11_about : GoodIn wsL_law wsX11_about := goodIn_r _ [978, 15, 640, 828, 979, 980, 981, 662, 982, 983, 818, 668, 669, 46, 670, 104, 257, 2, 258, 984, 605, 606, 607, 106, 109, 985, 746, 747, 748, 108, 1056, 1057, 1058, 1059, 1081, 1082, 1083, 1084, 1085, 1086, 1087, 1088, 1089, 1090, 1091, 1092, 1093, 1094, 1148, 1149, 1150, 1151, 1152, 1153, 1154, 1155, 1156, 1157] (by decide +kernel) (by decide +kernel)
set_option maxRecDepth 20000 in
theorem gL_law_X11_about : GoodIn wsL_law (wsV RL 105 RX11 yX11_about wsX11_about) := goodIn_app (goodIn_of _ (by decide +kernel)) ggL_law_X11_about
set_option maxRecDepth 20000 in
theorem ggL_law_X12_about : GoodIn wsL_law wsX12_about := goodIn_r _ [989, 675, 676, 677, 5, 678, 178, 461, 462, 463, 624, 625, 626, 627, 628, 629, 630, 631, 800, 801, 802, 803, 1060, 1061, 1062, 1063, 1064, 1065, 1066, 1067, 1068, 1069, 1070, 1071, 1072, 1073, 1074, 1075, 1076, 1077, 1078, 1079, 1080] (by decide +kernel) (by decide +kernel)
set_option maxRecDepth 20000 in
theorem gL_law_X12_about : GoodIn wsL_law (wsV RL 108 RX12 yX12_about wsX12_about) := goodIn_app (goodIn_of _ (by decide +kernel)) ggL_law_X12_about
set_option maxRecDepth 20000 in
theorem ggL_law_X11_book : GoodIn wsL_law wsX11_book := goodIn_r _ [993, 15, 881, 994, 493, 257, 2, 258, 995, 996, 997, 54, 998, 125, 896, 897, 898, 1056, 1057, 1058, 1059, 1081, 1082, 1083, 1084, 1085, 1086, 1087, 1088, 1089, 1090, 1091, 1092, 1093, 1094, 1163] (by decide +kernel) (by decide +kernel)
set_option maxRecDepth 20000 in
theorem gL_law_X11_book : GoodIn wsL_law (wsV RL 109 RX11 yX11_book wsX11_book) := goodIn_app (goodIn_of _ (by decide +kernel)) ggL_law_X11_book
set_option maxRecDepth 20000 in
theorem ggL_law_X12_book : GoodIn wsL_law wsX12_book := goodIn_r _ [1002, 178, 461, 462, 5, 463, 1060, 1061, 1062, 1063, 1064, 1065, 1066, 1067, 1068, 1069, 1070, 1071, 1072, 1073, 1074, 1075, 1076, 1077, 1078, 1079, 1080] (by decide +kernel) (by decide +kernel)
set_option maxRecDepth 20000 in
theorem gL_law_X12_book : GoodIn wsL_law (wsV RL 112 RX12 yX12_book wsX12_book) := goodIn_app (goodIn_of _ (by decide +kernel)) ggL_law_X12_book
set_option maxRecDepth 20000 in
theorem ggL_law_X11_count : GoodIn wsL_law wsX11_count := goodIn_r _ [1006, 15, 492, 1007, 640, 827, 868, 1008, 881, 525, 219, 221, 1009, 963, 720, 721, 722, 46, 723, 104, 724, 664, 665, 666, 110, 667, 668, 669, 670, 257, 2, 258, 838, 750, 751, 752, 753, 754, 755, 756, 111, 107, 839, 758, 759, 760, 1056, 1057, 1058, 1059, 1081, 1082, 1083, 1084, 1085, 1086, 1087, 1088, 1089, 1090, 1091, 1092, 1093, 1094, 1134, 1135, 1136, 1137, 1138, 1139, 1140, 1141, 1142, 1143, 1148, 1149, 1150, 1151, 1152, 1153, 1154, 1155, 1156, 1157, 1158, 1159, 1160, 1161, 1162, 1126, 1127, 1128, 1129, 1130, 1131, 1132, 1133] (by decide +kernel) (by decide +kernel)
set_option maxRecDepth 20000 in
theorem gL_law_X11_count : GoodIn wsL_law (wsV RL 113 RX11 yX11_count wsX11_count) := goodIn_app (goodIn_of _ (by decide +kernel)) ggL_law_X11_count
set_option maxRecDepth 20000 in
theorem ggL_law_X12_count : GoodIn wsL_law wsX12_count := goodIn_r _ [1013, 178, 974, 679, 680, 681, 5, 682, 624, 625, 626, 627, 792, 793, 794, 795, 796, 797, 798, 799, 1060, 1061, 1062, 1063, 1064, 1065, 1066, 1067, 1068, 1069, 1070, 1071, 1072, 1073, 1074, 1075, 1076, 1077, 1078, 1079, 1080] (by decide +kernel) (by decide +kernel)
set_option maxRecDepth 20000 in
theorem gL_law_X12_count : GoodIn wsL_law (wsV RL 116 RX12 yX12_count wsX12_count) := goodIn_app (goodIn_of _ (by decide +kernel)) ggL_law_X12_count
set_option maxRecDepth 20000 in
theorem ggL_law_X11_image : GoodIn wsL_law wsX11_image := goodIn_r _ [1017, 16, 12, 13, 14, 15, 493, 257, 2, 258, 25, 26, 27, 10, 11, 28, 29, 30, 31, 32, 33, 34, 35, 36, 37, 38, 39, 40, 41, 42, 43, 44, 45, 46, 47, 48, 49, 50, 51, 52, 53, 54, 55, 56, 57, 58, 59, 60, 61, 62, 63, 64, 65, 66, 67, 68, 69, 70, 71, 72, 73, 74, 75, 76, 77, 78, 79, 80, 81, 82, 83, 84, 85, 86, 87, 88, 89, 90, 91, 92, 93, 94, 95, 96, 97, 98, 99, 100, 101, 102, 103, 104, 105, 106, 107, 108, 109, 110, 111, 112, 113, 114, 115, 116, 117, 118, 119, 120, 121, 122, 123, 124, 125, 1018, 1019, 1020, 1021, 1022, 238, 239, 240, 241, 242, 243, 244, 1023, 393, 394, 395, 396, 397, 398, 352, 353, 354, 399, 1024, 1025, 1026, 1027, 1028, 1029, 1030, 1031, 1032, 1033, 1034, 1035, 1036, 1037, 1038, 1039, 1040, 1041, 1042, 1043, 1056, 1057, 1058, 1059, 1081, 1082, 1083, 1084, 1085, 1086, 1087, 1088, 1089, 1090, 1091, 1092, 1093, 1094, 1124, 1125, 1126, 1127, 1128, 1129, 1130, 1131, 1132, 1133, 1134, 1135, 1136, 1137, 1138, 1139, 1140, 1141, 1142, 1143, 1144, 1145, 1146, 1147, 1148, 1149, 1150, 1151, 1152, 1153, 1154, 1155, 1156, 1157, 1158, 1159, 1160, 1161, 1162, 1163] (by decide +kernel) (by decide +kernel)
set_option maxRecDepth 20000 in
theorem gL_law_X11_image : GoodIn wsL_law (wsV RL 117 RX11 yX11_image wsX11_image) := goodIn_app (goodIn_of _ (by decide +kernel)) ggL_law_X11_image
set_option maxRecDepth 20000 in
theorem ggL_law_X12_image : GoodIn wsL_law wsX12_image := goodIn_r _ [1047, 180, 178, 461, 462, 5, 463, 1060, 1061, 1062, 1063, 1064, 1065, 1066, 1067, 1068, 1069, 1070, 1071, 1072, 1073, 1074, 1075, 1076, 1077, 1078, 1079, 1080] (by decide +kernel) (by decide +kernel)
set_option maxRecDepth 20000 in
theorem gL_law_X12_image : GoodIn wsL_law (wsV RL 120 RX12 yX12_image wsX12_image) := goodIn_app (goodIn_of _ (by decide +kernel)) ggL_law_X12_image
set_option maxRecDepth 20000 in
theorem ggL_law_X11_again : GoodIn wsL_law wsX11_again := goodIn_r _ [1051, 16, 15, 493, 257, 2, 258, 1018, 1019, 1020, 14, 1021, 31, 35, 39, 43, 47, 51, 55, 56, 57, 58, 59, 60, 61, 62, 1022, 238, 239, 30, 240, 68, 67, 241, 242, 243, 244, 1023, 393, 394, 34, 395, 72, 74, 75, 76, 77, 78, 79, 80, 396, 397, 398, 352, 353, 354, 399, 1024, 1025, 1026, 38, 1027, 84, 85, 86, 87, 88, 89, 90, 91, 1028, 1029, 1030, 42, 1031, 97, 98, 99, 100, 1032, 1033, 1034, 46, 1035, 104, 112, 105, 106, 107, 108, 109, 110, 111, 113, 1036, 1037, 1038, 50, 1039, 117, 118, 119, 120, 121, 1040, 1041, 1042, 54, 1043, 125, 1056, 1057, 1058, 1059, 1081, 1082, 1083, 1084, 1085, 1086, 1087, 1088, 1089, 1090, 1091, 1092, 1093, 1094, 1124, 1125, 1126, 1127, 1128, 1129, 1130, 1131, 1132, 1133, 1134, 1135, 1136, 1137, 1138, 1139, 1140, 1141, 1142, 1143, 1144, 1145, 1146, 1147, 1148, 1149, 1150, 1151, 1152, 1153, 1154, 1155, 1156, 1157, 1158, 1159, 1160, 1161, 1162, 1163] (by decide +kernel) (by decide +kernel)
set_option maxRecDepth 20000 in
theorem gL_law_X11_again : GoodIn wsL_law (wsV RL 121 RX11 yX11_again wsX11_again) := goodIn_app (goodIn_of _ (by decide +kernel)) ggL_law_X11_again
set_option maxRecDepth 20000 in
theorem ggL_law_X12_again : GoodIn wsL_law wsX12_again := goodIn_r _ [1055, 180, 178, 461, 462, 5, 463, 1060, 1061, 1062, 1063, 1064, 1065, 1066, 1067, 1068, 1069, 1070, 1071, 1072, 1073, 1074, 1075, 1076, 1077, 1078, 1079, 1080] (by decide +kernel) (by decide +kernel)
set_option maxRecDepth 20000 in
theorem gL_law_X12_again : GoodIn wsL_law (wsV RL 124 RX12 yX12_again wsX12_again) := goodIn_app (goodIn_of _ (by decide +kernel)) ggL_law_X12_again
