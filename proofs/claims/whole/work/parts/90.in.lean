set_option maxRecDepth 20000 in
theorem inL_r1 : ∀ w ∈ wsL_law_r1, w ∈ lw_tbl := fun w h => (goodIn_r wsL_law_r1 [70, 71, 51, 842, 843, 58, 1354, 72, 73, 74, 75, 76, 77, 78, 79, 52, 241, 242, 243, 193, 194, 56, 244, 221] (by decide +kernel) (by decide +kernel) w h).1
set_option maxRecDepth 20000 in
theorem inL_r2 : ∀ w ∈ wsL_law_r2, w ∈ lw_tbl := fun w h => (goodIn_r wsL_law_r2 [245, 223, 57, 80, 81, 82, 83, 84, 85, 53, 156, 114, 158, 160, 136, 162, 164, 115, 116, 54, 168, 170, 172, 87] (by decide +kernel) (by decide +kernel) w h).1
set_option maxRecDepth 20000 in
theorem inL_r3 : ∀ w ∈ wsL_law_r3, w ∈ lw_tbl := fun w h => (goodIn_r wsL_law_r3 [88, 89, 93, 94, 95, 96, 97, 98, 117, 118, 119, 120, 125, 121, 122, 55, 123, 124, 137, 138, 139, 140, 90, 141] (by decide +kernel) (by decide +kernel) w h).1
set_option maxRecDepth 20000 in
theorem inL_r4 : ∀ w ∈ wsL_law_r4, w ∈ lw_tbl := fun w h => (goodIn_r wsL_law_r4 [142, 143, 144, 145, 146, 147, 148, 149, 150, 151, 152, 154, 155, 196, 197, 198, 220, 201, 199, 203, 205, 200, 225, 226] (by decide +kernel) (by decide +kernel) w h).1
set_option maxRecDepth 20000 in
theorem inL_r5 : ∀ w ∈ wsL_law_r5, w ∈ lw_tbl := fun w h => (goodIn_r wsL_law_r5 [227, 240, 228, 230, 844, 845, 846, 847, 860, 861, 862, 864, 868, 869, 871, 872, 873, 874, 848, 850, 2, 851, 852, 854] (by decide +kernel) (by decide +kernel) w h).1
set_option maxRecDepth 20000 in
theorem inL_r6 : ∀ w ∈ wsL_law_r6, w ∈ lw_tbl := fun w h => (goodIn_r wsL_law_r6 [3, 855, 856, 858, 4, 859, 260, 261, 262, 263, 157, 91, 264, 265, 266, 267, 268, 269, 270, 271, 126, 906, 907, 908] (by decide +kernel) (by decide +kernel) w h).1
set_option maxRecDepth 20000 in
theorem inL_r7 : ∀ w ∈ wsL_law_r7, w ∈ lw_tbl := fun w h => (goodIn_r wsL_law_r7 [909, 272, 273, 274, 275, 159, 161, 276, 277, 278, 279, 280, 281, 282, 910, 911, 912, 913, 914, 916, 5, 917, 918, 919] (by decide +kernel) (by decide +kernel) w h).1
set_option maxRecDepth 20000 in
theorem inL_r8 : ∀ w ∈ wsL_law_r8, w ∈ lw_tbl := fun w h => (goodIn_r wsL_law_r8 [920, 921, 922, 923, 283, 284, 285, 286, 287, 288, 289, 290, 291, 292, 293, 294, 295, 296, 298, 299, 301, 302, 303, 304] (by decide +kernel) (by decide +kernel) w h).1
set_option maxRecDepth 20000 in
theorem inL_r9 : ∀ w ∈ wsL_law_r9, w ∈ lw_tbl := fun w h => (goodIn_r wsL_law_r9 [305, 306, 307, 308, 309, 310, 311, 312, 313, 314, 315, 316, 317, 318, 319, 320, 321, 322, 323, 324, 325, 326, 327, 328] (by decide +kernel) (by decide +kernel) w h).1
set_option maxRecDepth 20000 in
theorem inL_r10 : ∀ w ∈ wsL_law_r10, w ∈ lw_tbl := fun w h => (goodIn_r wsL_law_r10 [329, 330, 331, 332, 333, 334, 335, 336, 337, 338, 339, 340, 341, 342, 343, 924, 925, 926, 927, 928, 930, 6, 931, 932] (by decide +kernel) (by decide +kernel) w h).1
set_option maxRecDepth 20000 in
theorem inL_r11 : ∀ w ∈ wsL_law_r11, w ∈ lw_tbl := fun w h => (goodIn_r wsL_law_r11 [934, 7, 935, 936, 938, 8, 939, 940, 942, 9, 943, 944, 946, 10, 947, 948, 950, 11, 951, 952, 954, 12, 955, 956] (by decide +kernel) (by decide +kernel) w h).1
set_option maxRecDepth 20000 in
theorem inL_r12 : ∀ w ∈ wsL_law_r12, w ∈ lw_tbl := fun w h => (goodIn_r wsL_law_r12 [958, 13, 959, 344, 345, 346, 347, 348, 960, 961, 962, 963, 964, 966, 14, 967, 968, 970, 15, 971, 972, 974, 16, 975] (by decide +kernel) (by decide +kernel) w h).1
set_option maxRecDepth 20000 in
theorem inL_r13 : ∀ w ∈ wsL_law_r13, w ∈ lw_tbl := fun w h => (goodIn_r wsL_law_r13 [349, 350, 351, 352, 353, 354, 355, 356, 357, 358, 359, 360, 976, 977, 978, 979, 980, 982, 17, 983, 984, 985, 986, 987] (by decide +kernel) (by decide +kernel) w h).1
set_option maxRecDepth 20000 in
theorem inL_r14 : ∀ w ∈ wsL_law_r14, w ∈ lw_tbl := fun w h => (goodIn_r wsL_law_r14 [988, 990, 18, 991, 361, 362, 363, 364, 163, 365, 366, 992, 993, 994, 995, 367, 368, 369, 370, 165, 371, 996, 997, 998] (by decide +kernel) (by decide +kernel) w h).1
set_option maxRecDepth 20000 in
theorem inL_r15 : ∀ w ∈ wsL_law_r15, w ∈ lw_tbl := fun w h => (goodIn_r wsL_law_r15 [999, 372, 373, 374, 375, 167, 1000, 1001, 1002, 1003, 376, 377, 378, 379, 207, 202, 1004, 1005, 1006, 1007, 865, 380, 381, 382] (by decide +kernel) (by decide +kernel) w h).1
set_option maxRecDepth 20000 in
theorem inL_r16 : ∀ w ∈ wsL_law_r16, w ∈ lw_tbl := fun w h => (goodIn_r wsL_law_r16 [383, 204, 127, 384, 385, 386, 387, 208, 206, 388, 389, 390, 391, 392, 1358, 393, 394, 395, 396, 1355, 397, 398, 399, 400] (by decide +kernel) (by decide +kernel) w h).1
set_option maxRecDepth 20000 in
theorem inL_r17 : ∀ w ∈ wsL_law_r17, w ∈ lw_tbl := fun w h => (goodIn_r wsL_law_r17 [403, 404, 405, 406, 407, 408, 409, 59, 410, 1356, 411, 412, 413, 414, 415, 1357, 417, 418, 419, 420, 421, 422, 423, 424] (by decide +kernel) (by decide +kernel) w h).1
set_option maxRecDepth 20000 in
theorem inL_r18 : ∀ w ∈ wsL_law_r18, w ∈ lw_tbl := fun w h => (goodIn_r wsL_law_r18 [425, 426, 60, 427, 428, 429, 430, 431, 433, 434, 61, 435, 436, 437, 62, 438, 439, 440, 441, 442, 443, 444, 445, 446] (by decide +kernel) (by decide +kernel) w h).1
set_option maxRecDepth 20000 in
theorem inL_r19 : ∀ w ∈ wsL_law_r19, w ∈ lw_tbl := fun w h => (goodIn_r wsL_law_r19 [447, 448, 449, 451, 453, 455, 456, 63, 457, 458, 459, 460, 461, 462, 463, 464, 465, 466, 467, 468, 469, 470, 471, 472] (by decide +kernel) (by decide +kernel) w h).1
set_option maxRecDepth 20000 in
theorem inL_r20 : ∀ w ∈ wsL_law_r20, w ∈ lw_tbl := fun w h => (goodIn_r wsL_law_r20 [473, 474, 475, 477, 0, 478, 483, 484, 479, 480, 481, 482, 486, 487, 489, 490, 490, 491, 1359, 492, 493, 494, 495, 496] (by decide +kernel) (by decide +kernel) w h).1
set_option maxRecDepth 20000 in
theorem inL_r21 : ∀ w ∈ wsL_law_r21, w ∈ lw_tbl := fun w h => (goodIn_r wsL_law_r21 [497, 498, 499, 1008, 1009, 1010, 1011, 866, 867, 870, 1012, 1014, 19, 1015, 1016, 1018, 20, 1019, 1020, 1022, 21, 1023, 1025, 1026] (by decide +kernel) (by decide +kernel) w h).1
set_option maxRecDepth 20000 in
theorem inL_r22 : ∀ w ∈ wsL_law_r22, w ∈ lw_tbl := fun w h => (goodIn_r wsL_law_r22 [1027, 1028, 1029, 1030, 1031, 1032, 1036, 1037, 1038, 1039, 1033, 1034, 1035, 1040, 1041, 1042, 1043, 1044, 1045, 1046, 1047, 1048, 1049, 1050] (by decide +kernel) (by decide +kernel) w h).1
set_option maxRecDepth 20000 in
theorem inL_r23 : ∀ w ∈ wsL_law_r23, w ∈ lw_tbl := fun w h => (goodIn_r wsL_law_r23 [1051, 1052, 1053, 1054, 1055, 1056, 1057, 1058, 1059, 1060, 1061, 1062, 1063, 1064, 1065, 1066, 1067, 1068, 65, 1069, 1070, 1071, 1072, 1073] (by decide +kernel) (by decide +kernel) w h).1
set_option maxRecDepth 20000 in
theorem inL_r24 : ∀ w ∈ wsL_law_r24, w ∈ lw_tbl := fun w h => (goodIn_r wsL_law_r24 [1074, 1075, 1076, 1077, 1078, 1079, 1081, 22, 1082, 1083, 1085, 23, 1086, 1087, 1089, 24, 1090, 1091, 1093, 25, 1094, 1095, 1096, 1097] (by decide +kernel) (by decide +kernel) w h).1
set_option maxRecDepth 20000 in
theorem inL_r25 : ∀ w ∈ wsL_law_r25, w ∈ lw_tbl := fun w h => (goodIn_r wsL_law_r25 [1098, 1099, 1100, 1101, 1102, 500, 501, 502, 503, 504, 505, 506, 507, 92, 508, 509, 510, 511, 512, 513, 514, 515, 516, 517] (by decide +kernel) (by decide +kernel) w h).1
set_option maxRecDepth 20000 in
theorem inL_r26 : ∀ w ∈ wsL_law_r26, w ∈ lw_tbl := fun w h => (goodIn_r wsL_law_r26 [518, 519, 520, 521, 522, 523, 524, 525, 526, 527, 529, 530, 531, 532, 533, 534, 535, 536, 537, 538, 539, 540, 541, 542] (by decide +kernel) (by decide +kernel) w h).1
set_option maxRecDepth 20000 in
theorem inL_r27 : ∀ w ∈ wsL_law_r27, w ∈ lw_tbl := fun w h => (goodIn_r wsL_law_r27 [543, 544, 545, 546, 547, 548, 549, 550, 551, 552, 553, 554, 555, 556, 557, 558, 559, 560, 561, 562, 1254, 1255, 1256, 1257] (by decide +kernel) (by decide +kernel) w h).1
set_option maxRecDepth 20000 in
theorem inL_r28 : ∀ w ∈ wsL_law_r28, w ∈ lw_tbl := fun w h => (goodIn_r wsL_law_r28 [1258, 1260, 45, 1261, 1226, 1228, 43, 1229, 1230, 1232, 44, 1233, 1234, 1173, 1175, 36, 1176, 1177, 1179, 37, 1180, 1161, 1163, 35] (by decide +kernel) (by decide +kernel) w h).1
set_option maxRecDepth 20000 in
theorem inL_r29 : ∀ w ∈ wsL_law_r29, w ∈ lw_tbl := fun w h => (goodIn_r wsL_law_r29 [1164, 1181, 1183, 38, 1184, 1136, 1138, 30, 1139, 1140, 1142, 31, 1143, 1144, 1146, 32, 1147, 1148, 1149, 1151, 33, 1152, 1262, 1264] (by decide +kernel) (by decide +kernel) w h).1
set_option maxRecDepth 20000 in
theorem inL_r30 : ∀ w ∈ wsL_law_r30, w ∈ lw_tbl := fun w h => (goodIn_r wsL_law_r30 [46, 1265, 563, 564, 565, 566, 567, 568, 1103, 1104, 1105, 1106, 569, 570, 571, 572, 573, 574, 575, 576, 577, 578, 579, 1107] (by decide +kernel) (by decide +kernel) w h).1
set_option maxRecDepth 20000 in
theorem inL_r31 : ∀ w ∈ wsL_law_r31, w ∈ lw_tbl := fun w h => (goodIn_r wsL_law_r31 [1108, 1109, 1110, 580, 581, 582, 583, 584, 585, 586, 587, 588, 589, 590, 591, 592, 593, 594, 595, 596, 597, 598, 599, 600] (by decide +kernel) (by decide +kernel) w h).1
set_option maxRecDepth 20000 in
theorem inL_r32 : ∀ w ∈ wsL_law_r32, w ∈ lw_tbl := fun w h => (goodIn_r wsL_law_r32 [1111, 1112, 1113, 1114, 1115, 1117, 26, 1118, 1119, 1121, 27, 1122, 601, 602, 603, 604, 605, 1123, 606, 607, 608, 609, 610, 611] (by decide +kernel) (by decide +kernel) w h).1
set_option maxRecDepth 20000 in
theorem inL_r33 : ∀ w ∈ wsL_law_r33, w ∈ lw_tbl := fun w h => (goodIn_r wsL_law_r33 [612, 613, 614, 615, 616, 617, 618, 619, 620, 621, 622, 623, 624, 625, 1124, 1125, 1126, 1127, 1128, 1130, 28, 1131, 1132, 1134] (by decide +kernel) (by decide +kernel) w h).1
set_option maxRecDepth 20000 in
theorem inL_r34 : ∀ w ∈ wsL_law_r34, w ∈ lw_tbl := fun w h => (goodIn_r wsL_law_r34 [29, 1135, 1153, 1155, 34, 1156, 626, 627, 628, 629, 630, 631, 632, 633, 1157, 1158, 1159, 1160, 634, 635, 636, 637, 638, 639] (by decide +kernel) (by decide +kernel) w h).1
set_option maxRecDepth 20000 in
theorem inL_r35 : ∀ w ∈ wsL_law_r35, w ∈ lw_tbl := fun w h => (goodIn_r wsL_law_r35 [640, 641, 642, 1165, 1166, 1167, 1168, 643, 644, 645, 646, 647, 648, 649, 650, 651, 652, 653, 654, 655, 656, 657, 658, 659] (by decide +kernel) (by decide +kernel) w h).1
set_option maxRecDepth 20000 in
theorem inL_r36 : ∀ w ∈ wsL_law_r36, w ∈ lw_tbl := fun w h => (goodIn_r wsL_law_r36 [660, 661, 662, 667, 663, 664, 665, 666, 668, 669, 670, 671, 672, 673, 674, 675, 676, 1169, 1170, 1171, 1172, 1185, 1187, 39] (by decide +kernel) (by decide +kernel) w h).1
set_option maxRecDepth 20000 in
theorem inL_r37 : ∀ w ∈ wsL_law_r37, w ∈ lw_tbl := fun w h => (goodIn_r wsL_law_r37 [1188, 1189, 1191, 40, 1192, 1193, 1194, 1195, 1197, 41, 1198, 1199, 1201, 42, 1202, 677, 678, 679, 680, 1203, 1204, 1205, 1206, 681] (by decide +kernel) (by decide +kernel) w h).1
set_option maxRecDepth 20000 in
theorem inL_r38 : ∀ w ∈ wsL_law_r38, w ∈ lw_tbl := fun w h => (goodIn_r wsL_law_r38 [682, 683, 684, 685, 686, 687, 688, 689, 690, 691, 692, 693, 1207, 1208, 1209, 1210, 1221, 1211, 1212, 67, 1213, 1217, 1219, 1218] (by decide +kernel) (by decide +kernel) w h).1
set_option maxRecDepth 20000 in
theorem inL_r39 : ∀ w ∈ wsL_law_r39, w ∈ lw_tbl := fun w h => (goodIn_r wsL_law_r39 [67, 1220, 1214, 1215, 1216, 694, 695, 696, 697, 698, 1222, 1223, 1224, 1225, 699, 700, 701, 702, 703, 1235, 1236, 1237, 1238, 704] (by decide +kernel) (by decide +kernel) w h).1
set_option maxRecDepth 20000 in
theorem inL_r40 : ∀ w ∈ wsL_law_r40, w ∈ lw_tbl := fun w h => (goodIn_r wsL_law_r40 [705, 706, 707, 718, 708, 709, 710, 711, 712, 713, 714, 715, 716, 717, 1239, 1240, 1241, 1242, 1253, 1243, 1244, 68, 1245, 1249] (by decide +kernel) (by decide +kernel) w h).1
set_option maxRecDepth 20000 in
theorem inL_r41 : ∀ w ∈ wsL_law_r41, w ∈ lw_tbl := fun w h => (goodIn_r wsL_law_r41 [1251, 1250, 68, 1252, 1246, 1247, 1248, 719, 720, 721, 722, 169, 723, 724, 725, 1266, 1267, 1268, 1269, 726, 727, 728, 729, 730] (by decide +kernel) (by decide +kernel) w h).1
set_option maxRecDepth 20000 in
theorem inL_r42 : ∀ w ∈ wsL_law_r42, w ∈ lw_tbl := fun w h => (goodIn_r wsL_law_r42 [731, 732, 733, 128, 734, 735, 736, 1270, 1271, 1272, 1273, 1274, 1276, 47, 1277, 737, 738, 739, 740, 741, 742, 743, 744, 1278] (by decide +kernel) (by decide +kernel) w h).1
set_option maxRecDepth 20000 in
theorem inL_r43 : ∀ w ∈ wsL_law_r43, w ∈ lw_tbl := fun w h => (goodIn_r wsL_law_r43 [1279, 1280, 1281, 1282, 1283, 1284, 745, 746, 747, 748, 1285, 1286, 1287, 1288, 749, 750, 751, 752, 171, 1289, 1290, 1291, 1292, 1293] (by decide +kernel) (by decide +kernel) w h).1
set_option maxRecDepth 20000 in
theorem inL_r44 : ∀ w ∈ wsL_law_r44, w ∈ lw_tbl := fun w h => (goodIn_r wsL_law_r44 [1295, 48, 1296, 753, 754, 755, 756, 757, 758, 759, 760, 768, 767, 766, 69, 166, 761, 762, 763, 764, 765, 769, 770, 771] (by decide +kernel) (by decide +kernel) w h).1
set_option maxRecDepth 20000 in
theorem inL_r45 : ∀ w ∈ wsL_law_r45, w ∈ lw_tbl := fun w h => (goodIn_r wsL_law_r45 [772, 773, 1297, 1298, 1299, 1300, 1301, 1302, 1303, 1304, 1306, 49, 1307, 774, 775, 776, 777, 173, 1308, 1309, 1310, 1311, 778, 779] (by decide +kernel) (by decide +kernel) w h).1
set_option maxRecDepth 20000 in
theorem inL_r46 : ∀ w ∈ wsL_law_r46, w ∈ lw_tbl := fun w h => (goodIn_r wsL_law_r46 [780, 781, 1312, 1313, 1314, 1315, 782, 783, 784, 785, 231, 229, 786, 788, 1, 789, 790, 791, 792, 793, 794, 795, 796, 797] (by decide +kernel) (by decide +kernel) w h).1
set_option maxRecDepth 20000 in
theorem inL_r47 : ∀ w ∈ wsL_law_r47, w ∈ lw_tbl := fun w h => (goodIn_r wsL_law_r47 [232, 1316, 1317, 1318, 1319, 1320, 1321, 1322, 798, 799, 800, 801, 246, 1323, 1324, 1325, 1326, 863, 802, 803, 804, 805, 1327, 1328] (by decide +kernel) (by decide +kernel) w h).1
set_option maxRecDepth 20000 in
theorem inL_r48 : ∀ w ∈ wsL_law_r48, w ∈ lw_tbl := fun w h => (goodIn_r wsL_law_r48 [1329, 1330, 806, 807, 808, 809, 1331, 1332, 1333, 1334, 810, 811, 812, 813, 814, 815, 816, 817, 818, 819, 820, 1335, 1336, 1337] (by decide +kernel) (by decide +kernel) w h).1
set_option maxRecDepth 20000 in
theorem inL_r49 : ∀ w ∈ wsL_law_r49, w ∈ lw_tbl := fun w h => (goodIn_r wsL_law_r49 [1338, 821, 822, 823, 824, 825, 826, 827, 828, 1339, 1340, 1341, 1342, 1343, 1344, 1345, 829, 830, 831, 832, 1346, 1347, 1348, 1349] (by decide +kernel) (by decide +kernel) w h).1
set_option maxRecDepth 20000 in
theorem inL_r50 : ∀ w ∈ wsL_law_r50, w ∈ lw_tbl := fun w h => (goodIn_r wsL_law_r50 [833, 834, 835, 836, 841, 837, 838, 839, 840, 1350, 1351, 1352, 1353] (by decide +kernel) (by decide +kernel) w h).1
theorem inX1 : ∀ w ∈ wsX10, w ∈ lw_tbl := by decide +kernel
theorem inX2 : ∀ w ∈ wsX20, w ∈ lw_tbl := by decide +kernel
theorem inX3 : ∀ w ∈ wsX30, w ∈ lw_tbl := by decide +kernel
theorem inX4 : ∀ w ∈ wsX40, w ∈ lw_tbl := by decide +kernel
theorem inX5 : ∀ w ∈ wsX50, w ∈ lw_tbl := by decide +kernel
theorem inX7 : ∀ w ∈ wsX70, w ∈ lw_tbl := by decide +kernel
theorem inX8 : ∀ w ∈ wsX80, w ∈ lw_tbl := by decide +kernel
/-- the words of wsL_law, in their order, nested to one side alone: a place is found fast -/
def wsL_fl : List Cond := wsL_law_r1 ++ (wsL_law_r2 ++ (wsL_law_r3 ++ (wsL_law_r4 ++ (wsL_law_r5 ++ (wsL_law_r6 ++ (wsL_law_r7 ++ (wsL_law_r8 ++ (wsL_law_r9 ++ (wsL_law_r10 ++ (wsL_law_r11 ++ (wsL_law_r12 ++ (wsL_law_r13 ++ (wsL_law_r14 ++ (wsL_law_r15 ++ (wsL_law_r16 ++ (wsL_law_r17 ++ (wsL_law_r18 ++ (wsL_law_r19 ++ (wsL_law_r20 ++ (wsL_law_r21 ++ (wsL_law_r22 ++ (wsL_law_r23 ++ (wsL_law_r24 ++ (wsL_law_r25 ++ (wsL_law_r26 ++ (wsL_law_r27 ++ (wsL_law_r28 ++ (wsL_law_r29 ++ (wsL_law_r30 ++ (wsL_law_r31 ++ (wsL_law_r32 ++ (wsL_law_r33 ++ (wsL_law_r34 ++ (wsL_law_r35 ++ (wsL_law_r36 ++ (wsL_law_r37 ++ (wsL_law_r38 ++ (wsL_law_r39 ++ (wsL_law_r40 ++ (wsL_law_r41 ++ (wsL_law_r42 ++ (wsL_law_r43 ++ (wsL_law_r44 ++ (wsL_law_r45 ++ (wsL_law_r46 ++ (wsL_law_r47 ++ (wsL_law_r48 ++ (wsL_law_r49 ++ (wsL_law_r50 ++ (wsX70 ++ (wsX80 ++ (wsX30 ++ (wsX50 ++ (wsX40 ++ (wsX10 ++ (wsX20 ++ ([] : List Cond)))))))))))))))))))))))))))))))))))))))))))))))))))))))))
theorem wsL_fl_in : ∀ w ∈ wsL_fl, w ∈ lw_tbl := List.forall_mem_append.mpr ⟨inL_r1, List.forall_mem_append.mpr ⟨inL_r2, List.forall_mem_append.mpr ⟨inL_r3, List.forall_mem_append.mpr ⟨inL_r4, List.forall_mem_append.mpr ⟨inL_r5, List.forall_mem_append.mpr ⟨inL_r6, List.forall_mem_append.mpr ⟨inL_r7, List.forall_mem_append.mpr ⟨inL_r8, List.forall_mem_append.mpr ⟨inL_r9, List.forall_mem_append.mpr ⟨inL_r10, List.forall_mem_append.mpr ⟨inL_r11, List.forall_mem_append.mpr ⟨inL_r12, List.forall_mem_append.mpr ⟨inL_r13, List.forall_mem_append.mpr ⟨inL_r14, List.forall_mem_append.mpr ⟨inL_r15, List.forall_mem_append.mpr ⟨inL_r16, List.forall_mem_append.mpr ⟨inL_r17, List.forall_mem_append.mpr ⟨inL_r18, List.forall_mem_append.mpr ⟨inL_r19, List.forall_mem_append.mpr ⟨inL_r20, List.forall_mem_append.mpr ⟨inL_r21, List.forall_mem_append.mpr ⟨inL_r22, List.forall_mem_append.mpr ⟨inL_r23, List.forall_mem_append.mpr ⟨inL_r24, List.forall_mem_append.mpr ⟨inL_r25, List.forall_mem_append.mpr ⟨inL_r26, List.forall_mem_append.mpr ⟨inL_r27, List.forall_mem_append.mpr ⟨inL_r28, List.forall_mem_append.mpr ⟨inL_r29, List.forall_mem_append.mpr ⟨inL_r30, List.forall_mem_append.mpr ⟨inL_r31, List.forall_mem_append.mpr ⟨inL_r32, List.forall_mem_append.mpr ⟨inL_r33, List.forall_mem_append.mpr ⟨inL_r34, List.forall_mem_append.mpr ⟨inL_r35, List.forall_mem_append.mpr ⟨inL_r36, List.forall_mem_append.mpr ⟨inL_r37, List.forall_mem_append.mpr ⟨inL_r38, List.forall_mem_append.mpr ⟨inL_r39, List.forall_mem_append.mpr ⟨inL_r40, List.forall_mem_append.mpr ⟨inL_r41, List.forall_mem_append.mpr ⟨inL_r42, List.forall_mem_append.mpr ⟨inL_r43, List.forall_mem_append.mpr ⟨inL_r44, List.forall_mem_append.mpr ⟨inL_r45, List.forall_mem_append.mpr ⟨inL_r46, List.forall_mem_append.mpr ⟨inL_r47, List.forall_mem_append.mpr ⟨inL_r48, List.forall_mem_append.mpr ⟨inL_r49, List.forall_mem_append.mpr ⟨inL_r50, List.forall_mem_append.mpr ⟨inX7, List.forall_mem_append.mpr ⟨inX8, List.forall_mem_append.mpr ⟨inX3, List.forall_mem_append.mpr ⟨inX5, List.forall_mem_append.mpr ⟨inX4, List.forall_mem_append.mpr ⟨inX1, List.forall_mem_append.mpr ⟨inX2, fun _ h => absurd h List.not_mem_nil⟩⟩⟩⟩⟩⟩⟩⟩⟩⟩⟩⟩⟩⟩⟩⟩⟩⟩⟩⟩⟩⟩⟩⟩⟩⟩⟩⟩⟩⟩⟩⟩⟩⟩⟩⟩⟩⟩⟩⟩⟩⟩⟩⟩⟩⟩⟩⟩⟩⟩⟩⟩⟩⟩⟩⟩⟩
