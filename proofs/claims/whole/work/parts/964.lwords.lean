theorem wi_of {ws : List Cond} (ps : List Nat) (h : ws.map some = ps.map (fun i => lw_tbl[i]?)) : ∀ w ∈ ws, w ∈ lw_tbl := by
  intro w hw
  have h1 : some w ∈ ws.map some := List.mem_map.mpr ⟨w, hw, rfl⟩
  rw [h] at h1
  obtain ⟨i, -, hi⟩ := List.mem_map.mp h1
  exact List.mem_of_getElem? hi
set_option maxRecDepth 20000 in
theorem wi_wsL_law_r1 : ∀ w ∈ wsL_law_r1, w ∈ lw_tbl := wi_of [77, 78, 58, 1070, 1071, 70, 79, 80, 81, 82, 83, 84, 85, 86, 59, 508, 509, 370, 371, 67, 510, 445, 446, 69] (by decide +kernel)
set_option maxRecDepth 20000 in
theorem wi_wsL_law_r2 : ∀ w ∈ wsL_law_r2, w ∈ lw_tbl := wi_of [511, 88, 89, 90, 91, 92, 60, 310, 108, 109, 61, 312, 142, 143, 62, 314, 196, 197, 63, 317, 219, 220, 64, 320] (by decide +kernel)
set_option maxRecDepth 20000 in
theorem wi_wsL_law_r3 : ∀ w ∈ wsL_law_r3, w ∈ lw_tbl := wi_of [274, 275, 65, 323, 300, 301, 66, 325, 327, 329, 331, 333, 335, 337, 338, 94, 95, 96, 107, 97, 99, 111, 112, 113] (by decide +kernel)
set_option maxRecDepth 20000 in
theorem wi_wsL_law_r4 : ∀ w ∈ wsL_law_r4, w ∈ lw_tbl := wi_of [114, 141, 117, 118, 119, 120, 121, 122, 123, 145, 146, 147, 148, 152, 155, 158, 161, 163, 166, 169, 172, 174, 199, 200] (by decide +kernel)
set_option maxRecDepth 20000 in
theorem wi_wsL_law_r5 : ∀ w ∈ wsL_law_r5, w ∈ lw_tbl := wi_of [201, 202, 204, 206, 208, 222, 223, 224, 225, 230, 234, 236, 239, 241, 243, 246, 249, 251, 277, 278, 279, 280, 283, 285] (by decide +kernel)
set_option maxRecDepth 20000 in
theorem wi_wsL_law_r6 : ∀ w ∈ wsL_law_r6, w ∈ lw_tbl := wi_of [287, 288, 303, 304, 305, 306, 373, 374, 375, 376, 377, 68, 405, 403, 406, 408, 410, 412, 413, 414, 415, 416, 417, 418] (by decide +kernel)
set_option maxRecDepth 20000 in
theorem wi_wsL_law_r7 : ∀ w ∈ wsL_law_r7, w ∈ lw_tbl := wi_of [419, 379, 380, 381, 382, 384, 385, 387, 389, 390, 448, 449, 450, 451, 453, 455, 456, 457, 458, 459, 460, 461, 462, 463] (by decide +kernel)
set_option maxRecDepth 20000 in
theorem wi_wsL_law_r8 : ∀ w ∈ wsL_law_r8, w ∈ lw_tbl := wi_of [464, 466, 467, 468, 470, 472, 1072, 1073, 1074, 1075, 1076, 1140, 1077, 1087, 1088, 1089, 1090, 1091, 1092, 1093, 1094, 521, 522, 523] (by decide +kernel)
set_option maxRecDepth 20000 in
theorem wi_wsL_law_r9 : ∀ w ∈ wsL_law_r9, w ∈ lw_tbl := wi_of [524, 311, 100, 525, 526, 527, 528, 1141, 1142, 1143, 1144, 529, 530, 531, 532, 1145, 1146, 1147, 1148, 533, 534, 535, 536, 409] (by decide +kernel)
set_option maxRecDepth 20000 in
theorem wi_wsL_law_r10 : ∀ w ∈ wsL_law_r10, w ∈ lw_tbl := wi_of [328, 411, 330, 313, 407, 116, 537, 538, 539, 540, 386, 388, 541, 543, 0, 544, 115, 545, 546, 547, 548, 549, 550, 551] (by decide +kernel)
set_option maxRecDepth 20000 in
theorem wi_wsL_law_r11 : ∀ w ∈ wsL_law_r11, w ∈ lw_tbl := wi_of [552, 553, 555, 554, 71, 556, 557, 558, 559, 101, 98, 560, 561, 562, 563, 564, 565, 567, 568, 569, 571, 1, 572, 573] (by decide +kernel)
set_option maxRecDepth 20000 in
theorem wi_wsL_law_r12 : ∀ w ∈ wsL_law_r12, w ∈ lw_tbl := wi_of [575, 2, 576, 578, 580, 3, 581, 582, 583, 584, 72, 585, 1393, 586, 587, 588, 589, 590, 1394, 592, 593, 594, 595, 596] (by decide +kernel)
set_option maxRecDepth 20000 in
theorem wi_wsL_law_r13 : ∀ w ∈ wsL_law_r13, w ∈ lw_tbl := wi_of [597, 598, 599, 600, 601, 73, 602, 603, 604, 605, 606, 608, 609, 74, 610, 611, 612, 75, 613, 614, 615, 616, 617, 618] (by decide +kernel)
set_option maxRecDepth 20000 in
theorem wi_wsL_law_r14 : ∀ w ∈ wsL_law_r14, w ∈ lw_tbl := wi_of [619, 620, 621, 622, 623, 624, 626, 628, 640, 641, 642, 643, 645, 4, 646, 647, 649, 5, 650, 651, 653, 6, 654, 655] (by decide +kernel)
set_option maxRecDepth 20000 in
theorem wi_wsL_law_r15 : ∀ w ∈ wsL_law_r15, w ∈ lw_tbl := wi_of [657, 7, 658, 659, 661, 8, 662, 664, 666, 9, 667, 668, 669, 670, 671, 672, 673, 76, 674, 675, 677, 10, 678, 679] (by decide +kernel)
set_option maxRecDepth 20000 in
theorem wi_wsL_law_r16 : ∀ w ∈ wsL_law_r16, w ∈ lw_tbl := wi_of [681, 11, 682, 683, 685, 12, 686, 687, 688, 689, 690, 691, 693, 13, 694, 695, 697, 14, 698, 391, 699, 701, 15, 702] (by decide +kernel)
set_option maxRecDepth 20000 in
theorem wi_wsL_law_r17 : ∀ w ∈ wsL_law_r17, w ∈ lw_tbl := wi_of [703, 705, 16, 706, 707, 709, 17, 710, 711, 712, 713, 714, 716, 717, 718, 719, 1149, 1150, 1151, 1152, 1078, 1079, 1085, 1086] (by decide +kernel)
set_option maxRecDepth 20000 in
theorem wi_wsL_law_r18 : ∀ w ∈ wsL_law_r18, w ∈ lw_tbl := wi_of [1081, 1153, 1155, 27, 1156, 1080, 1164, 1165, 1084, 1082, 1083, 1157, 1159, 28, 1160, 1161, 1162, 1163, 1166, 1167, 1168, 1175, 1176, 1177] (by decide +kernel)
set_option maxRecDepth 20000 in
theorem wi_wsL_law_r19 : ∀ w ∈ wsL_law_r19, w ∈ lw_tbl := wi_of [1178, 1169, 1170, 1171, 1172, 1173, 1174, 1179, 1180, 1181, 1182, 1183, 1184, 1185, 1187, 29, 1188, 1189, 1191, 30, 1192, 1193, 1195, 31] (by decide +kernel)
set_option maxRecDepth 20000 in
theorem wi_wsL_law_r20 : ∀ w ∈ wsL_law_r20, w ∈ lw_tbl := wi_of [1196, 1197, 1199, 32, 1200, 1201, 1202, 1203, 1204, 1206, 33, 1207, 1208, 1210, 34, 1211, 1212, 1214, 35, 1215, 1216, 1218, 36, 1219] (by decide +kernel)
set_option maxRecDepth 20000 in
theorem wi_wsL_law_r21 : ∀ w ∈ wsL_law_r21, w ∈ lw_tbl := wi_of [720, 721, 722, 723, 1220, 1221, 1222, 1223, 724, 725, 726, 727, 316, 728, 729, 730, 731, 732, 1224, 1225, 1226, 1227, 733, 734] (by decide +kernel)
set_option maxRecDepth 20000 in
theorem wi_wsL_law_r22 : ∀ w ∈ wsL_law_r22, w ∈ lw_tbl := wi_of [735, 736, 319, 737, 738, 739, 740, 741, 742, 743, 1228, 1229, 1230, 1231, 1232, 1233, 1234, 745, 746, 747, 748, 334, 336, 749] (by decide +kernel)
set_option maxRecDepth 20000 in
theorem wi_wsL_law_r23 : ∀ w ∈ wsL_law_r23, w ∈ lw_tbl := wi_of [750, 751, 752, 150, 173, 753, 754, 755, 756, 757, 758, 759, 760, 761, 763, 18, 764, 765, 766, 767, 153, 162, 156, 768] (by decide +kernel)
set_option maxRecDepth 20000 in
theorem wi_wsL_law_r24 : ∀ w ∈ wsL_law_r24, w ∈ lw_tbl := wi_of [769, 770, 771, 772, 773, 774, 775, 777, 19, 778, 1235, 1236, 1237, 1238, 1239, 1241, 37, 1242, 1243, 1245, 38, 1246, 1247, 1249] (by decide +kernel)
set_option maxRecDepth 20000 in
theorem wi_wsL_law_r25 : ∀ w ∈ wsL_law_r25, w ∈ lw_tbl := wi_of [39, 1250, 1251, 1253, 40, 1254, 780, 781, 782, 783, 160, 784, 785, 786, 787, 788, 789, 790, 791, 793, 794, 795, 796, 159] (by decide +kernel)
set_option maxRecDepth 20000 in
theorem wi_wsL_law_r26 : ∀ w ∈ wsL_law_r26, w ∈ lw_tbl := wi_of [797, 798, 799, 800, 801, 802, 803, 804, 805, 806, 807, 808, 1255, 1256, 1257, 1258, 1259, 1261, 41, 1262, 1263, 1265, 42, 1266] (by decide +kernel)
set_option maxRecDepth 20000 in
theorem wi_wsL_law_r27 : ∀ w ∈ wsL_law_r27, w ∈ lw_tbl := wi_of [1267, 1269, 43, 1270, 1271, 1273, 44, 1274, 1275, 1277, 45, 1278, 809, 810, 811, 812, 322, 813, 814, 815, 816, 817, 818, 819] (by decide +kernel)
set_option maxRecDepth 20000 in
theorem wi_wsL_law_r28 : ∀ w ∈ wsL_law_r28, w ∈ lw_tbl := wi_of [820, 821, 1279, 1280, 1281, 1282, 1283, 1285, 46, 1286, 822, 823, 824, 825, 242, 826, 827, 828, 829, 830, 831, 832, 833, 1287] (by decide +kernel)
set_option maxRecDepth 20000 in
theorem wi_wsL_law_r29 : ∀ w ∈ wsL_law_r29, w ∈ lw_tbl := wi_of [1288, 1289, 1290, 1291, 1293, 47, 1294, 1295, 1297, 48, 1298, 835, 836, 837, 838, 839, 840, 841, 842, 244, 247, 843, 844, 845] (by decide +kernel)
set_option maxRecDepth 20000 in
theorem wi_wsL_law_r30 : ∀ w ∈ wsL_law_r30, w ∈ lw_tbl := wi_of [846, 1299, 1300, 1301, 1302, 847, 848, 849, 850, 851, 852, 853, 854, 855, 1303, 1304, 1305, 1306, 856, 857, 858, 859, 469, 471] (by decide +kernel)
set_option maxRecDepth 20000 in
theorem wi_wsL_law_r31 : ∀ w ∈ wsL_law_r31, w ∈ lw_tbl := wi_of [860, 861, 862, 863, 864, 865, 866, 867, 868, 318, 203, 205, 315, 149, 321, 869, 870, 872, 20, 873, 226, 231, 237, 874] (by decide +kernel)
set_option maxRecDepth 20000 in
theorem wi_wsL_law_r32 : ∀ w ∈ wsL_law_r32, w ∈ lw_tbl := wi_of [875, 876, 877, 878, 879, 880, 881, 882, 883, 884, 886, 21, 887, 888, 889, 890, 891, 892, 893, 894, 895, 897, 22, 898] (by decide +kernel)
set_option maxRecDepth 20000 in
theorem wi_wsL_law_r33 : ∀ w ∈ wsL_law_r33, w ∈ lw_tbl := wi_of [899, 900, 901, 902, 904, 23, 905, 907, 908, 909, 910, 452, 454, 465, 1307, 1308, 1309, 1310, 1095, 1096, 1311, 1313, 49, 1314] (by decide +kernel)
set_option maxRecDepth 20000 in
theorem wi_wsL_law_r34 : ∀ w ∈ wsL_law_r34, w ∈ lw_tbl := wi_of [1315, 1317, 50, 1318, 1319, 1321, 51, 1322, 1323, 1325, 52, 1326, 1327, 1329, 53, 1330, 1331, 1333, 54, 1334, 911, 912, 913, 914] (by decide +kernel)
set_option maxRecDepth 20000 in
theorem wi_wsL_law_r35 : ∀ w ∈ wsL_law_r35, w ∈ lw_tbl := wi_of [250, 252, 915, 1335, 1336, 1337, 1338, 916, 917, 918, 919, 229, 233, 1339, 1340, 1341, 1342, 1343, 920, 921, 922, 923, 924, 925] (by decide +kernel)
set_option maxRecDepth 20000 in
theorem wi_wsL_law_r36 : ∀ w ∈ wsL_law_r36, w ∈ lw_tbl := wi_of [926, 927, 928, 929, 930, 1344, 1345, 1346, 1347, 931, 932, 933, 934, 207, 935, 936, 937, 938, 939, 940, 1348, 1349, 1350, 1351] (by decide +kernel)
set_option maxRecDepth 20000 in
theorem wi_wsL_law_r37 : ∀ w ∈ wsL_law_r37, w ∈ lw_tbl := wi_of [941, 942, 943, 944, 324, 945, 946, 947, 948, 1352, 1353, 1354, 1355, 949, 950, 951, 952, 332, 953, 954, 955, 956, 281, 957] (by decide +kernel)
set_option maxRecDepth 20000 in
theorem wi_wsL_law_r38 : ∀ w ∈ wsL_law_r38, w ∈ lw_tbl := wi_of [958, 959, 960, 227, 961, 962, 963, 964, 965, 966, 967, 969, 970, 971, 972, 973, 975, 24, 976, 228, 977, 978, 979, 980] (by decide +kernel)
set_option maxRecDepth 20000 in
theorem wi_wsL_law_r39 : ∀ w ∈ wsL_law_r39, w ∈ lw_tbl := wi_of [981, 982, 984, 25, 985, 232, 209, 987, 164, 170, 167, 986, 988, 989, 990, 991, 992, 994, 26, 995, 286, 284, 996, 997] (by decide +kernel)
set_option maxRecDepth 20000 in
theorem wi_wsL_law_r40 : ∀ w ∈ wsL_law_r40, w ∈ lw_tbl := wi_of [998, 999, 1000, 1001, 1002, 1003, 1004, 1005, 1006, 1007, 1008, 1356, 1357, 1358, 1359, 1360, 1362, 55, 1363, 1364, 1366, 56, 1367, 1009] (by decide +kernel)
set_option maxRecDepth 20000 in
theorem wi_wsL_law_r41 : ∀ w ∈ wsL_law_r41, w ∈ lw_tbl := wi_of [1010, 1011, 1012, 1013, 154, 157, 165, 168, 171, 1014, 1368, 1369, 1370, 1371, 1372, 1015, 1016, 1017, 1018, 235, 238, 240, 245, 248] (by decide +kernel)
set_option maxRecDepth 20000 in
theorem wi_wsL_law_r42 : ∀ w ∈ wsL_law_r42, w ∈ lw_tbl := wi_of [1019, 1020, 1373, 1374, 1375, 1376, 1021, 1022, 1023, 1024, 326, 1025, 1026, 1027, 1028, 1377, 1378, 1379, 1380, 1029, 1030, 1031, 1032, 151] (by decide +kernel)
set_option maxRecDepth 20000 in
theorem wi_wsL_law_r43 : ∀ w ∈ wsL_law_r43, w ∈ lw_tbl := wi_of [282, 339, 1381, 1382, 1383, 1384, 1033, 1034, 1035, 1036, 1037, 1038, 1039, 1040, 1041, 1042, 1043, 1044, 1045, 1046, 1047, 1048, 1049, 1050] (by decide +kernel)
set_option maxRecDepth 20000 in
theorem wi_wsL_law_r44 : ∀ w ∈ wsL_law_r44, w ∈ lw_tbl := wi_of [1051, 1052, 1053, 1054, 1056, 1057, 1058, 1059, 1061, 1062, 1063, 1064, 1385, 1386, 1387, 1388, 1066, 1067, 1068, 1069, 1389, 1390, 1391, 1392] (by decide +kernel)
set_option maxRecDepth 20000 in
theorem wi_wsX110 : ∀ w ∈ wsX110, w ∈ lw_tbl := wi_of [512, 514, 516, 518] (by decide +kernel)
set_option maxRecDepth 20000 in
theorem wi_wsX120 : ∀ w ∈ wsX120, w ∈ lw_tbl := wi_of [1097, 1099, 1101, 1103, 1105, 1107, 1109, 1111, 1113, 1115, 1117, 1119, 1121, 1123, 1125, 1127, 1129, 1131, 1133, 1135, 1137] (by decide +kernel)
set_option maxRecDepth 20000 in
theorem wi_wsX70 : ∀ w ∈ wsX70, w ∈ lw_tbl := wi_of [340, 342, 344, 346, 348, 350, 352, 354, 356, 358, 360, 362, 364, 366] (by decide +kernel)
set_option maxRecDepth 20000 in
theorem wi_wsX40 : ∀ w ∈ wsX40, w ∈ lw_tbl := wi_of [420, 422, 424, 426, 428, 430, 432, 434, 436, 438, 440, 442] (by decide +kernel)
set_option maxRecDepth 20000 in
theorem wi_wsX10 : ∀ w ∈ wsX10, w ∈ lw_tbl := wi_of [473, 475, 477, 479, 481, 483, 485, 487, 489, 491, 493, 495, 497, 499, 501, 503, 505] (by decide +kernel)
set_option maxRecDepth 20000 in
theorem wi_wsX80 : ∀ w ∈ wsX80, w ∈ lw_tbl := wi_of [102, 104] (by decide +kernel)
set_option maxRecDepth 20000 in
theorem wi_wsX30 : ∀ w ∈ wsX30, w ∈ lw_tbl := wi_of [124, 126, 128, 130, 132, 134, 136, 138] (by decide +kernel)
set_option maxRecDepth 20000 in
theorem wi_wsX20 : ∀ w ∈ wsX20, w ∈ lw_tbl := wi_of [175, 177, 179, 181, 183, 185, 187, 189, 191, 193] (by decide +kernel)
set_option maxRecDepth 20000 in
theorem wi_wsX60 : ∀ w ∈ wsX60, w ∈ lw_tbl := wi_of [210, 212, 214, 216] (by decide +kernel)
set_option maxRecDepth 20000 in
theorem wi_wsX00 : ∀ w ∈ wsX00, w ∈ lw_tbl := wi_of [253, 255, 257, 259, 261, 263, 265, 267, 269, 271] (by decide +kernel)
set_option maxRecDepth 20000 in
theorem wi_wsX50 : ∀ w ∈ wsX50, w ∈ lw_tbl := wi_of [289, 291, 293, 295, 297] (by decide +kernel)
set_option maxRecDepth 20000 in
theorem wi_wsX100 : ∀ w ∈ wsX100, w ∈ lw_tbl := wi_of [307] (by decide +kernel)
set_option maxRecDepth 20000 in
theorem wi_wsX90 : ∀ w ∈ wsX90, w ∈ lw_tbl := wi_of [392, 394, 396, 398, 400] (by decide +kernel)
theorem wsL_law_in : ∀ w ∈ wsL_law, w ∈ lw_tbl := List.forall_mem_append.mpr ⟨List.forall_mem_append.mpr ⟨List.forall_mem_append.mpr ⟨List.forall_mem_append.mpr ⟨List.forall_mem_append.mpr ⟨List.forall_mem_append.mpr ⟨List.forall_mem_append.mpr ⟨List.forall_mem_append.mpr ⟨List.forall_mem_append.mpr ⟨List.forall_mem_append.mpr ⟨List.forall_mem_append.mpr ⟨List.forall_mem_append.mpr ⟨List.forall_mem_append.mpr ⟨List.forall_mem_append.mpr ⟨List.forall_mem_append.mpr ⟨wi_wsL_law_r1, List.forall_mem_append.mpr ⟨wi_wsL_law_r2, List.forall_mem_append.mpr ⟨wi_wsL_law_r3, List.forall_mem_append.mpr ⟨wi_wsL_law_r4, List.forall_mem_append.mpr ⟨wi_wsL_law_r5, List.forall_mem_append.mpr ⟨wi_wsL_law_r6, List.forall_mem_append.mpr ⟨wi_wsL_law_r7, List.forall_mem_append.mpr ⟨wi_wsL_law_r8, List.forall_mem_append.mpr ⟨wi_wsL_law_r9, List.forall_mem_append.mpr ⟨wi_wsL_law_r10, List.forall_mem_append.mpr ⟨wi_wsL_law_r11, List.forall_mem_append.mpr ⟨wi_wsL_law_r12, List.forall_mem_append.mpr ⟨wi_wsL_law_r13, List.forall_mem_append.mpr ⟨wi_wsL_law_r14, List.forall_mem_append.mpr ⟨wi_wsL_law_r15, List.forall_mem_append.mpr ⟨wi_wsL_law_r16, List.forall_mem_append.mpr ⟨wi_wsL_law_r17, List.forall_mem_append.mpr ⟨wi_wsL_law_r18, List.forall_mem_append.mpr ⟨wi_wsL_law_r19, List.forall_mem_append.mpr ⟨wi_wsL_law_r20, List.forall_mem_append.mpr ⟨wi_wsL_law_r21, List.forall_mem_append.mpr ⟨wi_wsL_law_r22, List.forall_mem_append.mpr ⟨wi_wsL_law_r23, List.forall_mem_append.mpr ⟨wi_wsL_law_r24, List.forall_mem_append.mpr ⟨wi_wsL_law_r25, List.forall_mem_append.mpr ⟨wi_wsL_law_r26, List.forall_mem_append.mpr ⟨wi_wsL_law_r27, List.forall_mem_append.mpr ⟨wi_wsL_law_r28, List.forall_mem_append.mpr ⟨wi_wsL_law_r29, List.forall_mem_append.mpr ⟨wi_wsL_law_r30, List.forall_mem_append.mpr ⟨wi_wsL_law_r31, List.forall_mem_append.mpr ⟨wi_wsL_law_r32, List.forall_mem_append.mpr ⟨wi_wsL_law_r33, List.forall_mem_append.mpr ⟨wi_wsL_law_r34, List.forall_mem_append.mpr ⟨wi_wsL_law_r35, List.forall_mem_append.mpr ⟨wi_wsL_law_r36, List.forall_mem_append.mpr ⟨wi_wsL_law_r37, List.forall_mem_append.mpr ⟨wi_wsL_law_r38, List.forall_mem_append.mpr ⟨wi_wsL_law_r39, List.forall_mem_append.mpr ⟨wi_wsL_law_r40, List.forall_mem_append.mpr ⟨wi_wsL_law_r41, List.forall_mem_append.mpr ⟨wi_wsL_law_r42, List.forall_mem_append.mpr ⟨wi_wsL_law_r43, wi_wsL_law_r44⟩⟩⟩⟩⟩⟩⟩⟩⟩⟩⟩⟩⟩⟩⟩⟩⟩⟩⟩⟩⟩⟩⟩⟩⟩⟩⟩⟩⟩⟩⟩⟩⟩⟩⟩⟩⟩⟩⟩⟩⟩⟩⟩, wi_wsX110⟩, wi_wsX120⟩, wi_wsX70⟩, wi_wsX40⟩, wi_wsX10⟩, wi_wsX80⟩, wi_wsX30⟩, wi_wsX20⟩, wi_wsX60⟩, wi_wsX00⟩, wi_wsX50⟩, wi_wsX100⟩, wi_wsX90⟩, fun _ h => absurd h List.not_mem_nil⟩
