theorem wi_of {ws : List Cond} (ps : List Nat) (h : ws.map some = ps.map (fun i => lw_tbl[i]?)) : ∀ w ∈ ws, w ∈ lw_tbl := by
  intro w hw
  have h1 : some w ∈ ws.map some := List.mem_map.mpr ⟨w, hw, rfl⟩
  rw [h] at h1
  obtain ⟨i, -, hi⟩ := List.mem_map.mp h1
  exact List.mem_of_getElem? hi
set_option maxRecDepth 20000 in
theorem wi_wsL_law_r1 : ∀ w ∈ wsL_law_r1, w ∈ lw_tbl := wi_of [77, 78, 58, 1064, 1065, 70, 79, 80, 81, 82, 83, 84, 85, 86, 59, 507, 508, 370, 371, 67, 311, 509, 444, 445] (by decide +kernel)
set_option maxRecDepth 20000 in
theorem wi_wsL_law_r2 : ∀ w ∈ wsL_law_r2, w ∈ lw_tbl := wi_of [69, 510, 88, 89, 90, 91, 92, 60, 310, 108, 109, 61, 312, 142, 143, 62, 314, 196, 197, 63, 317, 219, 220, 64] (by decide +kernel)
set_option maxRecDepth 20000 in
theorem wi_wsL_law_r3 : ∀ w ∈ wsL_law_r3, w ∈ lw_tbl := wi_of [320, 274, 275, 65, 323, 300, 301, 66, 325, 327, 329, 331, 333, 335, 337, 338, 94, 95, 96, 107, 97, 99, 111, 112] (by decide +kernel)
set_option maxRecDepth 20000 in
theorem wi_wsL_law_r4 : ∀ w ∈ wsL_law_r4, w ∈ lw_tbl := wi_of [113, 114, 141, 117, 118, 119, 120, 121, 122, 123, 145, 146, 147, 148, 152, 155, 158, 161, 163, 166, 169, 172, 174, 199] (by decide +kernel)
set_option maxRecDepth 20000 in
theorem wi_wsL_law_r5 : ∀ w ∈ wsL_law_r5, w ∈ lw_tbl := wi_of [200, 201, 202, 204, 206, 208, 222, 223, 224, 225, 230, 234, 236, 239, 241, 243, 246, 249, 251, 277, 278, 279, 280, 283] (by decide +kernel)
set_option maxRecDepth 20000 in
theorem wi_wsL_law_r6 : ∀ w ∈ wsL_law_r6, w ∈ lw_tbl := wi_of [285, 287, 288, 303, 304, 305, 306, 372, 373, 374, 375, 376, 405, 407, 409, 411, 412, 413, 414, 415, 416, 417, 418, 378] (by decide +kernel)
set_option maxRecDepth 20000 in
theorem wi_wsL_law_r7 : ∀ w ∈ wsL_law_r7, w ∈ lw_tbl := wi_of [379, 68, 404, 380, 381, 382, 383, 385, 387, 389, 391, 384, 447, 448, 449, 450, 452, 454, 455, 456, 457, 458, 459, 460] (by decide +kernel)
set_option maxRecDepth 20000 in
theorem wi_wsL_law_r8 : ∀ w ∈ wsL_law_r8, w ∈ lw_tbl := wi_of [461, 462, 463, 465, 466, 467, 469, 471, 1066, 1067, 1068, 1069, 1070, 1134, 1071, 1081, 1082, 1083, 1084, 1085, 1086, 1087, 1088, 520] (by decide +kernel)
set_option maxRecDepth 20000 in
theorem wi_wsL_law_r9 : ∀ w ∈ wsL_law_r9, w ∈ lw_tbl := wi_of [521, 522, 523, 101, 524, 525, 526, 527, 1135, 1136, 1137, 1138, 528, 529, 530, 531, 1139, 1140, 1141, 1142, 532, 533, 534, 535] (by decide +kernel)
set_option maxRecDepth 20000 in
theorem wi_wsL_law_r10 : ∀ w ∈ wsL_law_r10, w ∈ lw_tbl := wi_of [408, 328, 410, 330, 313, 406, 116, 536, 537, 538, 539, 386, 388, 540, 542, 0, 543, 390, 115, 544, 545, 546, 547, 100] (by decide +kernel)
set_option maxRecDepth 20000 in
theorem wi_wsL_law_r11 : ∀ w ∈ wsL_law_r11, w ∈ lw_tbl := wi_of [98, 548, 549, 550, 551, 552, 553, 555, 556, 557, 559, 1, 560, 561, 563, 2, 564, 566, 568, 3, 569, 570, 571, 572] (by decide +kernel)
set_option maxRecDepth 20000 in
theorem wi_wsL_law_r12 : ∀ w ∈ wsL_law_r12, w ∈ lw_tbl := wi_of [71, 573, 1387, 574, 575, 576, 577, 578, 1388, 580, 581, 582, 583, 584, 585, 586, 587, 588, 589, 72, 590, 591, 592, 593] (by decide +kernel)
set_option maxRecDepth 20000 in
theorem wi_wsL_law_r13 : ∀ w ∈ wsL_law_r13, w ∈ lw_tbl := wi_of [594, 596, 597, 73, 598, 599, 600, 74, 601, 602, 603, 604, 605, 606, 607, 608, 609, 610, 611, 612, 614, 616, 628, 629] (by decide +kernel)
set_option maxRecDepth 20000 in
theorem wi_wsL_law_r14 : ∀ w ∈ wsL_law_r14, w ∈ lw_tbl := wi_of [630, 631, 633, 4, 634, 635, 637, 5, 638, 639, 641, 6, 642, 643, 645, 7, 646, 647, 649, 8, 650, 652, 654, 9] (by decide +kernel)
set_option maxRecDepth 20000 in
theorem wi_wsL_law_r15 : ∀ w ∈ wsL_law_r15, w ∈ lw_tbl := wi_of [655, 656, 657, 658, 659, 660, 661, 75, 662, 663, 665, 10, 666, 667, 669, 11, 670, 671, 673, 12, 674, 675, 676, 677] (by decide +kernel)
set_option maxRecDepth 20000 in
theorem wi_wsL_law_r16 : ∀ w ∈ wsL_law_r16, w ∈ lw_tbl := wi_of [678, 679, 681, 13, 682, 683, 685, 14, 686, 392, 687, 689, 15, 690, 691, 693, 16, 694, 695, 697, 17, 698, 699, 700] (by decide +kernel)
set_option maxRecDepth 20000 in
theorem wi_wsL_law_r17 : ∀ w ∈ wsL_law_r17, w ∈ lw_tbl := wi_of [701, 702, 704, 705, 706, 707, 709, 708, 76, 1143, 1144, 1145, 1146, 1072, 1073, 1079, 1080, 1075, 1147, 1149, 27, 1150, 1074, 1158] (by decide +kernel)
set_option maxRecDepth 20000 in
theorem wi_wsL_law_r18 : ∀ w ∈ wsL_law_r18, w ∈ lw_tbl := wi_of [1159, 1078, 1076, 1077, 1151, 1153, 28, 1154, 1155, 1156, 1157, 1160, 1161, 1162, 1169, 1170, 1171, 1172, 1163, 1164, 1165, 1166, 1167, 1168] (by decide +kernel)
set_option maxRecDepth 20000 in
theorem wi_wsL_law_r19 : ∀ w ∈ wsL_law_r19, w ∈ lw_tbl := wi_of [1173, 1174, 1175, 1176, 1177, 1178, 1179, 1181, 29, 1182, 1183, 1185, 30, 1186, 1187, 1189, 31, 1190, 1191, 1193, 32, 1194, 1195, 1196] (by decide +kernel)
set_option maxRecDepth 20000 in
theorem wi_wsL_law_r20 : ∀ w ∈ wsL_law_r20, w ∈ lw_tbl := wi_of [1197, 1198, 1200, 33, 1201, 1202, 1204, 34, 1205, 1206, 1208, 35, 1209, 1210, 1212, 36, 1213, 710, 711, 712, 713, 1214, 1215, 1216] (by decide +kernel)
set_option maxRecDepth 20000 in
theorem wi_wsL_law_r21 : ∀ w ∈ wsL_law_r21, w ∈ lw_tbl := wi_of [1217, 714, 715, 716, 717, 316, 718, 719, 720, 721, 722, 1218, 1219, 1220, 1221, 723, 724, 725, 726, 319, 727, 728, 729, 730] (by decide +kernel)
set_option maxRecDepth 20000 in
theorem wi_wsL_law_r22 : ∀ w ∈ wsL_law_r22, w ∈ lw_tbl := wi_of [731, 732, 733, 1222, 1223, 1224, 1225, 1226, 1227, 1228, 735, 736, 737, 738, 334, 336, 739, 740, 741, 742, 150, 173, 743, 744] (by decide +kernel)
set_option maxRecDepth 20000 in
theorem wi_wsL_law_r23 : ∀ w ∈ wsL_law_r23, w ∈ lw_tbl := wi_of [745, 746, 747, 748, 749, 750, 751, 753, 18, 754, 755, 756, 757, 153, 162, 156, 758, 759, 760, 761, 762, 763, 764, 765] (by decide +kernel)
set_option maxRecDepth 20000 in
theorem wi_wsL_law_r24 : ∀ w ∈ wsL_law_r24, w ∈ lw_tbl := wi_of [767, 19, 768, 1229, 1230, 1231, 1232, 1233, 1235, 37, 1236, 1237, 1239, 38, 1240, 1241, 1243, 39, 1244, 1245, 1247, 40, 1248, 770] (by decide +kernel)
set_option maxRecDepth 20000 in
theorem wi_wsL_law_r25 : ∀ w ∈ wsL_law_r25, w ∈ lw_tbl := wi_of [771, 772, 773, 160, 774, 775, 776, 777, 778, 779, 780, 781, 783, 784, 785, 786, 159, 787, 788, 789, 790, 791, 792, 793] (by decide +kernel)
set_option maxRecDepth 20000 in
theorem wi_wsL_law_r26 : ∀ w ∈ wsL_law_r26, w ∈ lw_tbl := wi_of [794, 795, 796, 797, 798, 1249, 1250, 1251, 1252, 1253, 1255, 41, 1256, 1257, 1259, 42, 1260, 1261, 1263, 43, 1264, 1265, 1267, 44] (by decide +kernel)
set_option maxRecDepth 20000 in
theorem wi_wsL_law_r27 : ∀ w ∈ wsL_law_r27, w ∈ lw_tbl := wi_of [1268, 1269, 1271, 45, 1272, 799, 800, 801, 802, 322, 803, 804, 805, 806, 807, 808, 809, 810, 811, 1273, 1274, 1275, 1276, 1277] (by decide +kernel)
set_option maxRecDepth 20000 in
theorem wi_wsL_law_r28 : ∀ w ∈ wsL_law_r28, w ∈ lw_tbl := wi_of [1279, 46, 1280, 812, 813, 814, 815, 242, 816, 817, 818, 819, 820, 821, 822, 823, 1281, 1282, 1283, 1284, 1285, 1287, 47, 1288] (by decide +kernel)
set_option maxRecDepth 20000 in
theorem wi_wsL_law_r29 : ∀ w ∈ wsL_law_r29, w ∈ lw_tbl := wi_of [1289, 1291, 48, 1292, 825, 826, 827, 828, 829, 830, 831, 832, 244, 247, 833, 834, 835, 836, 1293, 1294, 1295, 1296, 837, 838] (by decide +kernel)
set_option maxRecDepth 20000 in
theorem wi_wsL_law_r30 : ∀ w ∈ wsL_law_r30, w ∈ lw_tbl := wi_of [839, 840, 841, 842, 843, 844, 845, 1297, 1298, 1299, 1300, 846, 847, 848, 849, 468, 470, 850, 851, 852, 853, 854, 855, 856] (by decide +kernel)
set_option maxRecDepth 20000 in
theorem wi_wsL_law_r31 : ∀ w ∈ wsL_law_r31, w ∈ lw_tbl := wi_of [857, 858, 318, 203, 205, 315, 149, 321, 859, 860, 862, 20, 863, 226, 231, 237, 864, 865, 866, 867, 868, 869, 870, 871] (by decide +kernel)
set_option maxRecDepth 20000 in
theorem wi_wsL_law_r32 : ∀ w ∈ wsL_law_r32, w ∈ lw_tbl := wi_of [872, 873, 874, 876, 21, 877, 878, 879, 880, 881, 882, 883, 884, 885, 887, 22, 888, 889, 890, 891, 892, 894, 23, 895] (by decide +kernel)
set_option maxRecDepth 20000 in
theorem wi_wsL_law_r33 : ∀ w ∈ wsL_law_r33, w ∈ lw_tbl := wi_of [897, 898, 899, 900, 451, 453, 464, 1301, 1302, 1303, 1304, 1089, 1090, 1305, 1307, 49, 1308, 1309, 1311, 50, 1312, 1313, 1315, 51] (by decide +kernel)
set_option maxRecDepth 20000 in
theorem wi_wsL_law_r34 : ∀ w ∈ wsL_law_r34, w ∈ lw_tbl := wi_of [1316, 1317, 1319, 52, 1320, 1321, 1323, 53, 1324, 1325, 1327, 54, 1328, 901, 902, 903, 904, 250, 252, 905, 1329, 1330, 1331, 1332] (by decide +kernel)
set_option maxRecDepth 20000 in
theorem wi_wsL_law_r35 : ∀ w ∈ wsL_law_r35, w ∈ lw_tbl := wi_of [906, 907, 908, 909, 229, 233, 1333, 1334, 1335, 1336, 1337, 910, 911, 912, 913, 914, 915, 916, 917, 918, 919, 920, 1338, 1339] (by decide +kernel)
set_option maxRecDepth 20000 in
theorem wi_wsL_law_r36 : ∀ w ∈ wsL_law_r36, w ∈ lw_tbl := wi_of [1340, 1341, 921, 922, 923, 924, 207, 925, 926, 927, 928, 929, 930, 1342, 1343, 1344, 1345, 931, 932, 933, 934, 324, 935, 936] (by decide +kernel)
set_option maxRecDepth 20000 in
theorem wi_wsL_law_r37 : ∀ w ∈ wsL_law_r37, w ∈ lw_tbl := wi_of [937, 938, 1346, 1347, 1348, 1349, 939, 940, 941, 942, 332, 943, 944, 945, 946, 281, 947, 948, 949, 950, 227, 951, 952, 953] (by decide +kernel)
set_option maxRecDepth 20000 in
theorem wi_wsL_law_r38 : ∀ w ∈ wsL_law_r38, w ∈ lw_tbl := wi_of [954, 955, 956, 957, 959, 960, 961, 962, 963, 965, 24, 966, 228, 967, 968, 969, 970, 971, 972, 974, 25, 975, 232, 209] (by decide +kernel)
set_option maxRecDepth 20000 in
theorem wi_wsL_law_r39 : ∀ w ∈ wsL_law_r39, w ∈ lw_tbl := wi_of [977, 164, 170, 167, 976, 978, 979, 980, 981, 982, 984, 26, 985, 286, 284, 986, 987, 988, 989, 990, 991, 992, 993, 994] (by decide +kernel)
set_option maxRecDepth 20000 in
theorem wi_wsL_law_r40 : ∀ w ∈ wsL_law_r40, w ∈ lw_tbl := wi_of [995, 996, 997, 998, 1350, 1351, 1352, 1353, 1354, 1356, 55, 1357, 1358, 1360, 56, 1361, 999, 1000, 1001, 1002, 1003, 154, 157, 165] (by decide +kernel)
set_option maxRecDepth 20000 in
theorem wi_wsL_law_r41 : ∀ w ∈ wsL_law_r41, w ∈ lw_tbl := wi_of [168, 171, 1004, 1362, 1363, 1364, 1365, 1366, 1005, 1006, 1007, 1008, 235, 238, 240, 245, 248, 1009, 1010, 1367, 1368, 1369, 1370, 1011] (by decide +kernel)
set_option maxRecDepth 20000 in
theorem wi_wsL_law_r42 : ∀ w ∈ wsL_law_r42, w ∈ lw_tbl := wi_of [1012, 1013, 1014, 326, 1015, 1016, 1017, 1018, 1371, 1372, 1373, 1374, 1019, 1020, 1021, 1022, 151, 282, 339, 1375, 1376, 1377, 1378, 1023] (by decide +kernel)
set_option maxRecDepth 20000 in
theorem wi_wsL_law_r43 : ∀ w ∈ wsL_law_r43, w ∈ lw_tbl := wi_of [1024, 1025, 1026, 1027, 1028, 1029, 1030, 1031, 1032, 1033, 1034, 1035, 1036, 1037, 1038, 1039, 1040, 1041, 1042, 1043, 1044, 1045, 1046, 1047] (by decide +kernel)
set_option maxRecDepth 20000 in
theorem wi_wsL_law_r44 : ∀ w ∈ wsL_law_r44, w ∈ lw_tbl := wi_of [1048, 1050, 1051, 1052, 1053, 1055, 1056, 1057, 1058, 1379, 1380, 1381, 1382, 1060, 1061, 1062, 1063, 1383, 1384, 1385, 1386] (by decide +kernel)
set_option maxRecDepth 20000 in
theorem wi_wsX110 : ∀ w ∈ wsX110, w ∈ lw_tbl := wi_of [511, 513, 515, 517] (by decide +kernel)
set_option maxRecDepth 20000 in
theorem wi_wsX120 : ∀ w ∈ wsX120, w ∈ lw_tbl := wi_of [1091, 1093, 1095, 1097, 1099, 1101, 1103, 1105, 1107, 1109, 1111, 1113, 1115, 1117, 1119, 1121, 1123, 1125, 1127, 1129, 1131] (by decide +kernel)
set_option maxRecDepth 20000 in
theorem wi_wsX70 : ∀ w ∈ wsX70, w ∈ lw_tbl := wi_of [340, 342, 344, 346, 348, 350, 352, 354, 356, 358, 360, 362, 364, 366] (by decide +kernel)
set_option maxRecDepth 20000 in
theorem wi_wsX40 : ∀ w ∈ wsX40, w ∈ lw_tbl := wi_of [419, 421, 423, 425, 427, 429, 431, 433, 435, 437, 439, 441] (by decide +kernel)
set_option maxRecDepth 20000 in
theorem wi_wsX10 : ∀ w ∈ wsX10, w ∈ lw_tbl := wi_of [472, 474, 476, 478, 480, 482, 484, 486, 488, 490, 492, 494, 496, 498, 500, 502, 504] (by decide +kernel)
set_option maxRecDepth 20000 in
theorem wi_wsX80 : ∀ w ∈ wsX80, w ∈ lw_tbl := wi_of [102, 104] (by decide +kernel)
set_option maxRecDepth 20000 in
theorem wi_wsX30 : ∀ w ∈ wsX30, w ∈ lw_tbl := wi_of [124, 126, 128, 130, 132, 134, 136, 138] (by decide +kernel)
set_option maxRecDepth 20000 in
theorem wi_wsX20 : ∀ w ∈ wsX20, w ∈ lw_tbl := wi_of [175, 177, 179, 181, 183, 185, 187, 189, 191, 193] (by decide +kernel)
set_option maxRecDepth 20000 in
theorem wi_wsX60 : ∀ w ∈ wsX60, w ∈ lw_tbl := wi_of [210, 212, 214, 216] (by decide +kernel)
set_option maxRecDepth 20000 in
theorem wi_wsX00 : ∀ w ∈ wsX00, w ∈ lw_tbl := wi_of [253, 255, 257, 259, 261, 263, 265, 267, 269, 271] (by decide +kernel)
set_option maxRecDepth 20000 in
theorem wi_wsX50 : ∀ w ∈ wsX50, w ∈ lw_tbl := wi_of [289, 291, 293, 295, 297] (by decide +kernel)
set_option maxRecDepth 20000 in
theorem wi_wsX100 : ∀ w ∈ wsX100, w ∈ lw_tbl := wi_of [307] (by decide +kernel)
set_option maxRecDepth 20000 in
theorem wi_wsX90 : ∀ w ∈ wsX90, w ∈ lw_tbl := wi_of [393, 395, 397, 399, 401] (by decide +kernel)
theorem wsL_law_in : ∀ w ∈ wsL_law, w ∈ lw_tbl := List.forall_mem_append.mpr ⟨List.forall_mem_append.mpr ⟨List.forall_mem_append.mpr ⟨List.forall_mem_append.mpr ⟨List.forall_mem_append.mpr ⟨List.forall_mem_append.mpr ⟨List.forall_mem_append.mpr ⟨List.forall_mem_append.mpr ⟨List.forall_mem_append.mpr ⟨List.forall_mem_append.mpr ⟨List.forall_mem_append.mpr ⟨List.forall_mem_append.mpr ⟨List.forall_mem_append.mpr ⟨List.forall_mem_append.mpr ⟨List.forall_mem_append.mpr ⟨wi_wsL_law_r1, List.forall_mem_append.mpr ⟨wi_wsL_law_r2, List.forall_mem_append.mpr ⟨wi_wsL_law_r3, List.forall_mem_append.mpr ⟨wi_wsL_law_r4, List.forall_mem_append.mpr ⟨wi_wsL_law_r5, List.forall_mem_append.mpr ⟨wi_wsL_law_r6, List.forall_mem_append.mpr ⟨wi_wsL_law_r7, List.forall_mem_append.mpr ⟨wi_wsL_law_r8, List.forall_mem_append.mpr ⟨wi_wsL_law_r9, List.forall_mem_append.mpr ⟨wi_wsL_law_r10, List.forall_mem_append.mpr ⟨wi_wsL_law_r11, List.forall_mem_append.mpr ⟨wi_wsL_law_r12, List.forall_mem_append.mpr ⟨wi_wsL_law_r13, List.forall_mem_append.mpr ⟨wi_wsL_law_r14, List.forall_mem_append.mpr ⟨wi_wsL_law_r15, List.forall_mem_append.mpr ⟨wi_wsL_law_r16, List.forall_mem_append.mpr ⟨wi_wsL_law_r17, List.forall_mem_append.mpr ⟨wi_wsL_law_r18, List.forall_mem_append.mpr ⟨wi_wsL_law_r19, List.forall_mem_append.mpr ⟨wi_wsL_law_r20, List.forall_mem_append.mpr ⟨wi_wsL_law_r21, List.forall_mem_append.mpr ⟨wi_wsL_law_r22, List.forall_mem_append.mpr ⟨wi_wsL_law_r23, List.forall_mem_append.mpr ⟨wi_wsL_law_r24, List.forall_mem_append.mpr ⟨wi_wsL_law_r25, List.forall_mem_append.mpr ⟨wi_wsL_law_r26, List.forall_mem_append.mpr ⟨wi_wsL_law_r27, List.forall_mem_append.mpr ⟨wi_wsL_law_r28, List.forall_mem_append.mpr ⟨wi_wsL_law_r29, List.forall_mem_append.mpr ⟨wi_wsL_law_r30, List.forall_mem_append.mpr ⟨wi_wsL_law_r31, List.forall_mem_append.mpr ⟨wi_wsL_law_r32, List.forall_mem_append.mpr ⟨wi_wsL_law_r33, List.forall_mem_append.mpr ⟨wi_wsL_law_r34, List.forall_mem_append.mpr ⟨wi_wsL_law_r35, List.forall_mem_append.mpr ⟨wi_wsL_law_r36, List.forall_mem_append.mpr ⟨wi_wsL_law_r37, List.forall_mem_append.mpr ⟨wi_wsL_law_r38, List.forall_mem_append.mpr ⟨wi_wsL_law_r39, List.forall_mem_append.mpr ⟨wi_wsL_law_r40, List.forall_mem_append.mpr ⟨wi_wsL_law_r41, List.forall_mem_append.mpr ⟨wi_wsL_law_r42, List.forall_mem_append.mpr ⟨wi_wsL_law_r43, wi_wsL_law_r44⟩⟩⟩⟩⟩⟩⟩⟩⟩⟩⟩⟩⟩⟩⟩⟩⟩⟩⟩⟩⟩⟩⟩⟩⟩⟩⟩⟩⟩⟩⟩⟩⟩⟩⟩⟩⟩⟩⟩⟩⟩⟩⟩, wi_wsX110⟩, wi_wsX120⟩, wi_wsX70⟩, wi_wsX40⟩, wi_wsX10⟩, wi_wsX80⟩, wi_wsX30⟩, wi_wsX20⟩, wi_wsX60⟩, wi_wsX00⟩, wi_wsX50⟩, wi_wsX100⟩, wi_wsX90⟩, fun _ h => absurd h List.not_mem_nil⟩
