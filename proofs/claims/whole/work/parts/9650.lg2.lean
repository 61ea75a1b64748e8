set_option maxRecDepth 20000 in
theorem ggL_law_X11_best : GoodIn wsL_law wsX11_best := goodIn_r _ [710, 15, 518, 633, 25, 711, 712, 713, 714, 715, 47, 716, 105, 717, 657, 658, 659, 111, 660, 661, 662, 663, 247, 2, 248, 718, 719, 720, 24, 721, 722, 723, 171, 724, 172, 173, 725, 726, 168, 727, 728, 589, 590, 14, 591, 40, 592, 48, 593, 594, 595, 596, 597, 598, 599, 600, 107, 110, 729, 730, 731, 732, 159, 733, 160, 161, 734, 162, 163, 164, 735, 165, 166, 167, 736, 737, 738, 739, 740, 741, 109, 742, 743, 744, 745, 746, 747, 748, 749, 112, 108, 750, 751, 752, 753, 754, 755, 756, 169, 757, 758, 759, 760, 761, 762, 343, 763, 174, 175, 764, 765, 766, 767, 170, 386, 387, 388, 342, 344, 389, 390, 391, 392, 768, 769, 770, 771, 113, 114, 772, 773, 774, 1053, 1054, 1055, 1056, 1078, 1079, 1080, 1081, 1082, 1083, 1084, 1085, 1086, 1087, 1088, 1089, 1090, 1091, 1104, 1105, 1106, 1107, 1108, 1109, 1110, 1111, 1112, 1113, 1114, 1115, 1116, 1117, 1118, 1119, 1120, 1145, 1146, 1147, 1148, 1149, 1150, 1151, 1152, 1153, 1154, 1141, 1142, 1143, 1144, 1131, 1132, 1133, 1134, 1135, 1136, 1137, 1138, 1139, 1140] (by decide +kernel) (by decide +kernel)
set_option maxRecDepth 20000 in
theorem gL_law_X11_best : GoodIn wsL_law (wsV RL 70 RX11 yX11_best wsX11_best) := goodIn_app (goodIn_of _ (by decide +kernel)) ggL_law_X11_best
set_option maxRecDepth 20000 in
theorem ggL_law_X12_best : GoodIn wsL_law wsX12_best := goodIn_r _ [778, 180, 187, 188, 779, 780, 189, 672, 673, 674, 5, 675, 617, 618, 619, 620, 781, 782, 783, 784, 190, 613, 614, 615, 616, 571, 572, 573, 574, 621, 622, 623, 624, 785, 786, 787, 788, 789, 790, 791, 792, 793, 794, 795, 796, 797, 798, 799, 800, 454, 455, 456, 801, 802, 803, 804, 647, 648, 649, 650, 1057, 1058, 1059, 1060, 1061, 1062, 1063, 1064, 1065, 1066, 1067, 1068, 1069, 1070, 1071, 1072, 1073, 1074, 1075, 1076, 1077] (by decide +kernel) (by decide +kernel)
set_option maxRecDepth 20000 in
theorem gL_law_X12_best : GoodIn wsL_law (wsV RL 73 RX12 yX12_best wsX12_best) := goodIn_app (goodIn_of _ (by decide +kernel)) ggL_law_X12_best
set_option maxRecDepth 20000 in
theorem ggL_law_X11_bestSide : GoodIn wsL_law wsX11_bestSide := goodIn_r _ [808, 15, 633, 809, 810, 811, 661, 662, 47, 663, 105, 247, 2, 248, 1053, 1054, 1055, 1056, 1078, 1079, 1080, 1081, 1082, 1083, 1084, 1085, 1086, 1087, 1088, 1089, 1090, 1091, 1145, 1146, 1147, 1148, 1149, 1150, 1151, 1152, 1153, 1154] (by decide +kernel) (by decide +kernel)
set_option maxRecDepth 20000 in
theorem gL_law_X11_bestSide : GoodIn wsL_law (wsV RL 74 RX11 yX11_bestSide wsX11_bestSide) := goodIn_app (goodIn_of _ (by decide +kernel)) ggL_law_X11_bestSide
set_option maxRecDepth 20000 in
theorem ggL_law_X12_bestSide : GoodIn wsL_law wsX12_bestSide := goodIn_r _ [815, 180, 668, 669, 670, 5, 671, 454, 455, 456, 617, 618, 619, 620, 1057, 1058, 1059, 1060, 1061, 1062, 1063, 1064, 1065, 1066, 1067, 1068, 1069, 1070, 1071, 1072, 1073, 1074, 1075, 1076, 1077] (by decide +kernel) (by decide +kernel)
set_option maxRecDepth 20000 in
theorem gL_law_X12_bestSide : GoodIn wsL_law (wsV RL 77 RX12 yX12_bestSide wsX12_bestSide) := goodIn_app (goodIn_of _ (by decide +kernel)) ggL_law_X12_bestSide
set_option maxRecDepth 20000 in
theorem ggL_law_X11_ladeBest : GoodIn wsL_law wsX11_ladeBest := goodIn_r _ [819, 15, 518, 633, 809, 820, 810, 821, 680, 681, 682, 14, 683, 48, 40, 684, 685, 686, 657, 658, 47, 659, 111, 660, 661, 662, 663, 105, 247, 2, 248, 687, 585, 586, 39, 587, 85, 688, 598, 599, 600, 107, 110, 689, 589, 590, 591, 592, 593, 594, 595, 596, 597, 1053, 1054, 1055, 1056, 1078, 1079, 1080, 1081, 1082, 1083, 1084, 1085, 1086, 1087, 1088, 1089, 1090, 1091, 1145, 1146, 1147, 1148, 1149, 1150, 1151, 1152, 1153, 1154, 1131, 1132, 1133, 1134, 1135, 1136, 1137, 1138, 1139, 1140] (by decide +kernel) (by decide +kernel)
set_option maxRecDepth 20000 in
theorem gL_law_X11_ladeBest : GoodIn wsL_law (wsV RL 78 RX11 yX11_ladeBest wsX11_ladeBest) := goodIn_app (goodIn_of _ (by decide +kernel)) ggL_law_X11_ladeBest
set_option maxRecDepth 20000 in
theorem ggL_law_X12_ladeBest : GoodIn wsL_law wsX12_ladeBest := goodIn_r _ [825, 180, 617, 618, 619, 5, 620, 826, 691, 692, 693, 668, 669, 670, 671, 454, 455, 456, 672, 673, 674, 675, 609, 610, 611, 612, 621, 622, 623, 624, 613, 614, 615, 616, 571, 572, 573, 574, 647, 648, 649, 650, 1057, 1058, 1059, 1060, 1061, 1062, 1063, 1064, 1065, 1066, 1067, 1068, 1069, 1070, 1071, 1072, 1073, 1074, 1075, 1076, 1077] (by decide +kernel) (by decide +kernel)
set_option maxRecDepth 20000 in
theorem gL_law_X12_ladeBest : GoodIn wsL_law (wsV RL 81 RX12 yX12_ladeBest wsX12_ladeBest) := goodIn_app (goodIn_of _ (by decide +kernel)) ggL_law_X12_ladeBest
set_option maxRecDepth 20000 in
theorem ggL_law_X11_sail : GoodIn wsL_law wsX11_sail := goodIn_r _ [830, 15, 518, 499, 633, 831, 743, 744, 47, 745, 746, 747, 748, 749, 105, 112, 108, 832, 751, 752, 753, 833, 834, 835, 43, 836, 837, 762, 343, 763, 98, 99, 1053, 1054, 1055, 1056, 1078, 1079, 1080, 1081, 1082, 1083, 1084, 1085, 1086, 1087, 1088, 1089, 1090, 1091, 1145, 1146, 1147, 1148, 1149, 1150, 1151, 1152, 1153, 1154, 1141, 1142, 1143, 1144] (by decide +kernel) (by decide +kernel)
set_option maxRecDepth 20000 in
theorem gL_law_X11_sail : GoodIn wsL_law (wsV RL 82 RX11 yX11_sail wsX11_sail) := goodIn_app (goodIn_of _ (by decide +kernel)) ggL_law_X11_sail
set_option maxRecDepth 20000 in
theorem ggL_law_X12_sail : GoodIn wsL_law wsX12_sail := goodIn_r _ [841, 180, 785, 786, 787, 5, 788, 672, 673, 674, 675, 617, 618, 619, 620, 789, 790, 791, 792, 797, 798, 799, 800, 454, 455, 456, 1057, 1058, 1059, 1060, 1061, 1062, 1063, 1064, 1065, 1066, 1067, 1068, 1069, 1070, 1071, 1072, 1073, 1074, 1075, 1076, 1077] (by decide +kernel) (by decide +kernel)
set_option maxRecDepth 20000 in
theorem gL_law_X12_sail : GoodIn wsL_law (wsV RL 86 RX12 yX12_sail wsX12_sail) := goodIn_app (goodIn_of _ (by decide +kernel)) ggL_law_X12_sail
set_option maxRecDepth 20000 in
theorem ggL_law_X11_board : GoodIn wsL_law wsX11_board := goodIn_r _ [845, 15, 633, 499, 846, 847, 848, 849, 47, 850, 105, 851, 699, 700, 701, 111, 660, 661, 662, 663, 247, 2, 248, 852, 739, 740, 741, 109, 110, 1053, 1054, 1055, 1056, 1078, 1079, 1080, 1081, 1082, 1083, 1084, 1085, 1086, 1087, 1088, 1089, 1090, 1091, 1141, 1142, 1143, 1144, 1145, 1146, 1147, 1148, 1149, 1150, 1151, 1152, 1153, 1154] (by decide +kernel) (by decide +kernel)
set_option maxRecDepth 20000 in
theorem gL_law_X11_board : GoodIn wsL_law (wsV RL 87 RX11 yX11_board wsX11_board) := goodIn_app (goodIn_of _ (by decide +kernel)) ggL_law_X11_board
set_option maxRecDepth 20000 in
theorem ggL_law_X12_board : GoodIn wsL_law wsX12_board := goodIn_r _ [856, 180, 454, 455, 5, 456, 672, 673, 674, 675, 617, 618, 619, 620, 793, 794, 795, 796, 1057, 1058, 1059, 1060, 1061, 1062, 1063, 1064, 1065, 1066, 1067, 1068, 1069, 1070, 1071, 1072, 1073, 1074, 1075, 1076, 1077] (by decide +kernel) (by decide +kernel)
set_option maxRecDepth 20000 in
theorem gL_law_X12_board : GoodIn wsL_law (wsV RL 90 RX12 yX12_board wsX12_board) := goodIn_app (goodIn_of _ (by decide +kernel)) ggL_law_X12_board
set_option maxRecDepth 20000 in
theorem ggL_law_X11_loan : GoodIn wsL_law wsX11_loan := goodIn_r _ [860, 15, 518, 485, 861, 580, 581, 582, 39, 583, 584, 585, 586, 587, 85, 247, 2, 248, 486, 862, 863, 864, 51, 865, 118, 119, 120, 121, 122, 601, 602, 603, 604, 90, 1053, 1054, 1055, 1056, 1078, 1079, 1080, 1081, 1082, 1083, 1084, 1085, 1086, 1087, 1088, 1089, 1090, 1091, 1131, 1132, 1133, 1134, 1135, 1136, 1137, 1138, 1139, 1140, 1155, 1156, 1157, 1158, 1159] (by decide +kernel) (by decide +kernel)
set_option maxRecDepth 20000 in
theorem gL_law_X11_loan : GoodIn wsL_law (wsV RL 91 RX11 yX11_loan wsX11_loan) := goodIn_app (goodIn_of _ (by decide +kernel)) ggL_law_X11_loan
set_option maxRecDepth 20000 in
theorem ggL_law_X12_loan : GoodIn wsL_law wsX12_loan := goodIn_r _ [869, 180, 609, 610, 611, 5, 612, 454, 455, 456, 625, 626, 627, 628, 1057, 1058, 1059, 1060, 1061, 1062, 1063, 1064, 1065, 1066, 1067, 1068, 1069, 1070, 1071, 1072, 1073, 1074, 1075, 1076, 1077] (by decide +kernel) (by decide +kernel)
set_option maxRecDepth 20000 in
theorem gL_law_X12_loan : GoodIn wsL_law (wsV RL 94 RX12 yX12_loan wsX12_loan) := goodIn_app (goodIn_of _ (by decide +kernel)) ggL_law_X12_loan
set_option maxRecDepth 20000 in
theorem ggL_law_X11_ends : GoodIn wsL_law wsX11_ends := goodIn_r _ [873, 15, 518, 874, 875, 876, 877, 14, 878, 56, 59, 61, 48, 62, 40, 52, 879, 60, 880, 881, 882, 55, 883, 884, 885, 886, 887, 888, 126, 889, 890, 891, 247, 2, 248, 892, 714, 715, 47, 716, 105, 717, 657, 658, 659, 111, 660, 661, 662, 663, 893, 848, 849, 850, 851, 699, 700, 701, 852, 739, 740, 741, 109, 110, 894, 751, 752, 753, 746, 747, 748, 749, 112, 108, 895, 896, 897, 898, 899, 900, 901, 902, 903, 904, 597, 598, 599, 600, 107, 905, 906, 907, 908, 909, 910, 684, 44, 911, 912, 342, 343, 344, 63, 913, 914, 915, 916, 688, 917, 918, 919, 920, 921, 922, 923, 924, 925, 926, 927, 928, 929, 51, 930, 121, 122, 931, 602, 603, 39, 604, 90, 932, 933, 934, 935, 85, 88, 936, 937, 938, 939, 113, 1053, 1054, 1055, 1056, 1078, 1079, 1080, 1081, 1082, 1083, 1084, 1085, 1086, 1087, 1088, 1089, 1090, 1091, 1155, 1156, 1157, 1158, 1159, 1145, 1146, 1147, 1148, 1149, 1150, 1151, 1152, 1153, 1154, 1160, 1141, 1142, 1143, 1144, 1131, 1132, 1133, 1134, 1135, 1136, 1137, 1138, 1139, 1140] (by decide +kernel) (by decide +kernel)
set_option maxRecDepth 20000 in
theorem gL_law_X11_ends : GoodIn wsL_law (wsV RL 95 RX11 yX11_ends wsX11_ends) := goodIn_app (goodIn_of _ (by decide +kernel)) ggL_law_X11_ends
set_option maxRecDepth 20000 in
theorem ggL_law_X12_ends : GoodIn wsL_law wsX12_ends := goodIn_r _ [943, 180, 672, 673, 674, 5, 675, 617, 618, 619, 620, 793, 794, 795, 796, 621, 622, 623, 624, 944, 945, 946, 947, 625, 626, 627, 628, 948, 949, 950, 951, 1057, 1058, 1059, 1060, 1061, 1062, 1063, 1064, 1065, 1066, 1067, 1068, 1069, 1070, 1071, 1072, 1073, 1074, 1075, 1076, 1077] (by decide +kernel) (by decide +kernel)
set_option maxRecDepth 20000 in
theorem gL_law_X12_ends : GoodIn wsL_law (wsV RL 99 RX12 yX12_ends wsX12_ends) := goodIn_app (goodIn_of _ (by decide +kernel)) ggL_law_X12_ends
set_option maxRecDepth 20000 in
theorem ggL_law_X11_tell : GoodIn wsL_law wsX11_tell := goodIn_r _ [955, 15, 485, 956, 957, 958, 579, 959, 960, 961, 634, 585, 586, 39, 587, 85, 247, 2, 248, 962, 527, 528, 14, 529, 36, 40, 59, 62, 530, 531, 532, 35, 533, 73, 75, 76, 534, 535, 536, 537, 77, 79, 80, 81, 78, 538, 539, 540, 541, 542, 543, 544, 545, 546, 588, 589, 590, 591, 592, 48, 593, 594, 595, 47, 596, 105, 111, 597, 598, 599, 600, 107, 110, 1053, 1054, 1055, 1056, 1078, 1079, 1080, 1081, 1082, 1083, 1084, 1085, 1086, 1087, 1088, 1089, 1090, 1091, 1131, 1132, 1133, 1134, 1135, 1136, 1137, 1138, 1139, 1140, 1123, 1124, 1125, 1126, 1127, 1128, 1129, 1130, 1145, 1146, 1147, 1148, 1149, 1150, 1151, 1152, 1153, 1154] (by decide +kernel) (by decide +kernel)
set_option maxRecDepth 20000 in
theorem gL_law_X11_tell : GoodIn wsL_law (wsV RL 100 RX11 yX11_tell wsX11_tell) := goodIn_app (goodIn_of _ (by decide +kernel)) ggL_law_X11_tell
set_option maxRecDepth 20000 in
theorem ggL_law_X12_tell : GoodIn wsL_law wsX12_tell := goodIn_r _ [966, 967, 609, 610, 611, 5, 612, 180, 454, 455, 456, 571, 572, 573, 574, 559, 560, 561, 562, 563, 564, 565, 566, 567, 568, 569, 570, 613, 614, 615, 616, 617, 618, 619, 620, 621, 622, 623, 624, 1057, 1058, 1059, 1060, 1061, 1062, 1063, 1064, 1065, 1066, 1067, 1068, 1069, 1070, 1071, 1072, 1073, 1074, 1075, 1076, 1077] (by decide +kernel) (by decide +kernel)
set_option maxRecDepth 20000 in
theorem gL_law_X12_tell : GoodIn wsL_law (wsV RL 104 RX12 yX12_tell wsX12_tell) := goodIn_app (goodIn_of _ (by decide +kernel)) ggL_law_X12_tell
set_option maxRecDepth 20000 in
theorem ggL_law_X11_about : GoodIn wsL_law wsX11_about := goodIn_r _ [971, 15, 633, 821, 972, 973, 974, 655, 975, 976, 811, 661, 662, 47, 663, 105, 247, 2, 248, 977, 598, 599, 600, 107, 110, 978, 739, 740, 741, 109, 1053, 1054, 1055, 1056, 1078, 1079, 1080, 1081, 1082, 1083, 1084, 1085, 1086, 1087, 1088, 1089, 1090, 1091, 1145, 1146, 1147, 1148, 1149, 1150, 1151, 1152, 1153, 1154] (by decide +kernel) (by decide +kernel)
set_option maxRecDepth 20000 in
theorem gL_law_X11_about : GoodIn wsL_law (wsV RL 105 RX11 yX11_about wsX11_about) := goodIn_app (goodIn_of _ (by decide +kernel)) ggL_law_X11_about
set_option maxRecDepth 20000 in
theorem ggL_law_X12_about : GoodIn wsL_law wsX12_about := goodIn_r _ [982, 668, 669, 670, 5, 671, 180, 454, 455, 456, 617, 618, 619, 620, 621, 622, 623, 624, 793, 794, 795, 796, 1057, 1058, 1059, 1060, 1061, 1062, 1063, 1064, 1065, 1066, 1067, 1068, 1069, 1070, 1071, 1072, 1073, 1074, 1075, 1076, 1077] (by decide +kernel) (by decide +kernel)
set_option maxRecDepth 20000 in
theorem gL_law_X12_about : GoodIn wsL_law (wsV RL 108 RX12 yX12_about wsX12_about) := goodIn_app (goodIn_of _ (by decide +kernel)) ggL_law_X12_about
set_option maxRecDepth 20000 in
theorem ggL_law_X11_book : GoodIn wsL_law wsX11_book := goodIn_r _ [986, 15, 874, 987, 486, 247, 2, 248, 988, 989, 990, 55, 991, 126, 889, 890, 891, 1053, 1054, 1055, 1056, 1078, 1079, 1080, 1081, 1082, 1083, 1084, 1085, 1086, 1087, 1088, 1089, 1090, 1091, 1160] (by decide +kernel) (by decide +kernel)
set_option maxRecDepth 20000 in
theorem gL_law_X11_book : GoodIn wsL_law (wsV RL 109 RX11 yX11_book wsX11_book) := goodIn_app (goodIn_of _ (by decide +kernel)) ggL_law_X11_book
set_option maxRecDepth 20000 in
theorem ggL_law_X12_book : GoodIn wsL_law wsX12_book := goodIn_r _ [995, 180, 454, 455, 5, 456, 1057, 1058, 1059, 1060, 1061, 1062, 1063, 1064, 1065, 1066, 1067, 1068, 1069, 1070, 1071, 1072, 1073, 1074, 1075, 1076, 1077] (by decide +kernel) (by decide +kernel)
set_option maxRecDepth 20000 in
theorem gL_law_X12_book : GoodIn wsL_law (wsV RL 112 RX12 yX12_book wsX12_book) := goodIn_app (goodIn_of _ (by decide +kernel)) ggL_law_X12_book
set_option maxRecDepth 20000 in
theorem ggL_law_X11_count : GoodIn wsL_law wsX11_count := goodIn_r _ [999, 15, 485, 1000, 633, 820, 861, 1001, 874, 518, 220, 222, 1002, 956, 713, 714, 715, 47, 716, 105, 717, 657, 658, 659, 111, 660, 661, 662, 663, 247, 2, 248, 831, 743, 744, 745, 746, 747, 748, 749, 112, 108, 832, 751, 752, 753, 1053, 1054, 1055, 1056, 1078, 1079, 1080, 1081, 1082, 1083, 1084, 1085, 1086, 1087, 1088, 1089, 1090, 1091, 1131, 1132, 1133, 1134, 1135, 1136, 1137, 1138, 1139, 1140, 1145, 1146, 1147, 1148, 1149, 1150, 1151, 1152, 1153, 1154, 1155, 1156, 1157, 1158, 1159, 1123, 1124, 1125, 1126, 1127, 1128, 1129, 1130] (by decide +kernel) (by decide +kernel)
set_option maxRecDepth 20000 in
theorem gL_law_X11_count : GoodIn wsL_law (wsV RL 113 RX11 yX11_count wsX11_count) := goodIn_app (goodIn_of _ (by decide +kernel)) ggL_law_X11_count
set_option maxRecDepth 20000 in
theorem ggL_law_X12_count : GoodIn wsL_law wsX12_count := goodIn_r _ [1006, 180, 967, 672, 673, 674, 5, 675, 617, 618, 619, 620, 785, 786, 787, 788, 789, 790, 791, 792, 1057, 1058, 1059, 1060, 1061, 1062, 1063, 1064, 1065, 1066, 1067, 1068, 1069, 1070, 1071, 1072, 1073, 1074, 1075, 1076, 1077] (by decide +kernel) (by decide +kernel)
set_option maxRecDepth 20000 in
theorem gL_law_X12_count : GoodIn wsL_law (wsV RL 116 RX12 yX12_count wsX12_count) := goodIn_app (goodIn_of _ (by decide +kernel)) ggL_law_X12_count
set_option maxRecDepth 20000 in
theorem ggL_law_X11_image : GoodIn wsL_law wsX11_image := goodIn_r _ [1010, 16, 12, 13, 14, 15, 486, 247, 2, 248, 26, 27, 28, 10, 11, 29, 30, 31, 32, 33, 34, 35, 36, 37, 38, 39, 40, 41, 42, 43, 44, 45, 46, 47, 48, 49, 50, 51, 52, 53, 54, 55, 56, 57, 58, 59, 60, 61, 62, 63, 64, 65, 66, 67, 68, 69, 70, 71, 72, 73, 74, 75, 76, 77, 78, 79, 80, 81, 82, 83, 84, 85, 86, 87, 88, 89, 90, 91, 92, 93, 94, 95, 96, 97, 98, 99, 100, 101, 102, 103, 104, 105, 106, 107, 108, 109, 110, 111, 112, 113, 114, 115, 116, 117, 118, 119, 120, 121, 122, 123, 124, 125, 126, 1011, 1012, 1013, 1014, 1015, 1016, 1017, 1018, 1019, 390, 391, 392, 1020, 383, 384, 385, 386, 387, 388, 342, 343, 344, 389, 1021, 1022, 1023, 1024, 1025, 1026, 1027, 1028, 1029, 1030, 1031, 1032, 1033, 1034, 1035, 1036, 1037, 1038, 1039, 1040, 1053, 1054, 1055, 1056, 1078, 1079, 1080, 1081, 1082, 1083, 1084, 1085, 1086, 1087, 1088, 1089, 1090, 1091, 1121, 1122, 1123, 1124, 1125, 1126, 1127, 1128, 1129, 1130, 1131, 1132, 1133, 1134, 1135, 1136, 1137, 1138, 1139, 1140, 1141, 1142, 1143, 1144, 1145, 1146, 1147, 1148, 1149, 1150, 1151, 1152, 1153, 1154, 1155, 1156, 1157, 1158, 1159, 1160] (by decide +kernel) (by decide +kernel)
set_option maxRecDepth 20000 in
theorem gL_law_X11_image : GoodIn wsL_law (wsV RL 117 RX11 yX11_image wsX11_image) := goodIn_app (goodIn_of _ (by decide +kernel)) ggL_law_X11_image
set_option maxRecDepth 20000 in
theorem ggL_law_X12_image : GoodIn wsL_law wsX12_image := goodIn_r _ [1044, 182, 180, 454, 455, 5, 456, 1057, 1058, 1059, 1060, 1061, 1062, 1063, 1064, 1065, 1066, 1067, 1068, 1069, 1070, 1071, 1072, 1073, 1074, 1075, 1076, 1077] (by decide +kernel) (by decide +kernel)
set_option maxRecDepth 20000 in
theorem gL_law_X12_image : GoodIn wsL_law (wsV RL 120 RX12 yX12_image wsX12_image) := goodIn_app (goodIn_of _ (by decide +kernel)) ggL_law_X12_image
set_option maxRecDepth 20000 in
theorem ggL_law_X11_again : GoodIn wsL_law wsX11_again := goodIn_r _ [1048, 16, 15, 486, 247, 2, 248, 1011, 1012, 1013, 14, 1014, 32, 36, 40, 44, 48, 52, 56, 57, 58, 59, 60, 61, 62, 63, 1015, 1016, 1017, 31, 1018, 69, 68, 1019, 390, 391, 392, 1020, 383, 384, 35, 385, 73, 75, 76, 77, 78, 79, 80, 81, 386, 387, 388, 342, 343, 344, 389, 1021, 1022, 1023, 39, 1024, 85, 86, 87, 88, 89, 90, 91, 92, 1025, 1026, 1027, 43, 1028, 98, 99, 100, 101, 1029, 1030, 1031, 47, 1032, 105, 113, 106, 107, 108, 109, 110, 111, 112, 114, 1033, 1034, 1035, 51, 1036, 118, 119, 120, 121, 122, 1037, 1038, 1039, 55, 1040, 126, 1053, 1054, 1055, 1056, 1078, 1079, 1080, 1081, 1082, 1083, 1084, 1085, 1086, 1087, 1088, 1089, 1090, 1091, 1121, 1122, 1123, 1124, 1125, 1126, 1127, 1128, 1129, 1130, 1131, 1132, 1133, 1134, 1135, 1136, 1137, 1138, 1139, 1140, 1141, 1142, 1143, 1144, 1145, 1146, 1147, 1148, 1149, 1150, 1151, 1152, 1153, 1154, 1155, 1156, 1157, 1158, 1159, 1160] (by decide +kernel) (by decide +kernel)
set_option maxRecDepth 20000 in
theorem gL_law_X11_again : GoodIn wsL_law (wsV RL 121 RX11 yX11_again wsX11_again) := goodIn_app (goodIn_of _ (by decide +kernel)) ggL_law_X11_again
set_option maxRecDepth 20000 in
theorem ggL_law_X12_again : GoodIn wsL_law wsX12_again := goodIn_r _ [1052, 182, 180, 454, 455, 5, 456, 1057, 1058, 1059, 1060, 1061, 1062, 1063, 1064, 1065, 1066, 1067, 1068, 1069, 1070, 1071, 1072, 1073, 1074, 1075, 1076, 1077] (by decide +kernel) (by decide +kernel)
set_option maxRecDepth 20000 in
theorem gL_law_X12_again : GoodIn wsL_law (wsV RL 124 RX12 yX12_again wsX12_again) := goodIn_app (goodIn_of _ (by decide +kernel)) ggL_law_X12_again
