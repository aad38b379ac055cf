set_option maxRecDepth 20000 in
theorem inL_r1 : ∀ w ∈ wsL_law_r1, w ∈ lw_tbl := fun w h => (goodIn_r wsL_law_r1 [70, 71, 51, 842, 843, 57, 1356, 72, 73, 74, 75, 76, 77, 78, 79, 52, 246, 247, 248, 198, 199, 55, 249, 226] (by decide +kernel) (by decide +kernel) w h).1
set_option maxRecDepth 20000 in
theorem inL_r2 : ∀ w ∈ wsL_law_r2, w ∈ lw_tbl := fun w h => (goodIn_r wsL_law_r2 [250, 228, 56, 80, 81, 82, 83, 84, 85, 53, 161, 114, 163, 165, 133, 167, 169, 115, 116, 54, 173, 175, 177, 87] (by decide +kernel) (by decide +kernel) w h).1
set_option maxRecDepth 20000 in
theorem inL_r3 : ∀ w ∈ wsL_law_r3, w ∈ lw_tbl := fun w h => (goodIn_r wsL_law_r3 [88, 89, 93, 94, 95, 96, 97, 98, 117, 118, 119, 120, 121, 122, 134, 135, 136, 137, 90, 138, 139, 140, 141, 142] (by decide +kernel) (by decide +kernel) w h).1
set_option maxRecDepth 20000 in
theorem inL_r4 : ∀ w ∈ wsL_law_r4, w ∈ lw_tbl := fun w h => (goodIn_r wsL_law_r4 [143, 144, 145, 146, 147, 148, 149, 150, 151, 152, 153, 154, 155, 156, 157, 159, 160, 201, 202, 203, 225, 206, 204, 208] (by decide +kernel) (by decide +kernel) w h).1
set_option maxRecDepth 20000 in
theorem inL_r5 : ∀ w ∈ wsL_law_r5, w ∈ lw_tbl := fun w h => (goodIn_r wsL_law_r5 [210, 205, 230, 231, 232, 245, 233, 235, 844, 845, 846, 847, 860, 861, 862, 864, 868, 869, 871, 872, 873, 874, 848, 850] (by decide +kernel) (by decide +kernel) w h).1
set_option maxRecDepth 20000 in
theorem inL_r6 : ∀ w ∈ wsL_law_r6, w ∈ lw_tbl := fun w h => (goodIn_r wsL_law_r6 [2, 851, 852, 854, 3, 855, 856, 858, 4, 859, 265, 266, 267, 268, 162, 91, 269, 270, 271, 272, 273, 274, 275, 276] (by decide +kernel) (by decide +kernel) w h).1
set_option maxRecDepth 20000 in
theorem inL_r7 : ∀ w ∈ wsL_law_r7, w ∈ lw_tbl := fun w h => (goodIn_r wsL_law_r7 [123, 906, 907, 908, 909, 277, 278, 279, 280, 164, 166, 281, 282, 283, 284, 910, 911, 912, 913, 914, 916, 5, 917, 918] (by decide +kernel) (by decide +kernel) w h).1
set_option maxRecDepth 20000 in
theorem inL_r8 : ∀ w ∈ wsL_law_r8, w ∈ lw_tbl := fun w h => (goodIn_r wsL_law_r8 [919, 920, 921, 922, 923, 285, 286, 287, 288, 289, 290, 291, 292, 293, 294, 295, 297, 298, 300, 301, 302, 303, 304, 305] (by decide +kernel) (by decide +kernel) w h).1
set_option maxRecDepth 20000 in
theorem inL_r9 : ∀ w ∈ wsL_law_r9, w ∈ lw_tbl := fun w h => (goodIn_r wsL_law_r9 [306, 307, 308, 309, 310, 311, 312, 313, 314, 315, 316, 317, 318, 319, 320, 321, 322, 323, 324, 325, 326, 327, 328, 329] (by decide +kernel) (by decide +kernel) w h).1
set_option maxRecDepth 20000 in
theorem inL_r10 : ∀ w ∈ wsL_law_r10, w ∈ lw_tbl := fun w h => (goodIn_r wsL_law_r10 [330, 331, 332, 333, 334, 335, 336, 337, 338, 339, 340, 341, 342, 924, 925, 926, 927, 928, 930, 6, 931, 932, 934, 7] (by decide +kernel) (by decide +kernel) w h).1
set_option maxRecDepth 20000 in
theorem inL_r11 : ∀ w ∈ wsL_law_r11, w ∈ lw_tbl := fun w h => (goodIn_r wsL_law_r11 [935, 936, 938, 8, 939, 940, 942, 9, 943, 944, 946, 10, 947, 948, 950, 11, 951, 952, 954, 12, 955, 956, 958, 13] (by decide +kernel) (by decide +kernel) w h).1
set_option maxRecDepth 20000 in
theorem inL_r12 : ∀ w ∈ wsL_law_r12, w ∈ lw_tbl := fun w h => (goodIn_r wsL_law_r12 [959, 343, 344, 345, 346, 347, 960, 961, 962, 963, 964, 966, 14, 967, 968, 970, 15, 971, 972, 974, 16, 975, 348, 349] (by decide +kernel) (by decide +kernel) w h).1
set_option maxRecDepth 20000 in
theorem inL_r13 : ∀ w ∈ wsL_law_r13, w ∈ lw_tbl := fun w h => (goodIn_r wsL_law_r13 [350, 351, 352, 353, 354, 355, 356, 357, 358, 359, 976, 977, 978, 979, 980, 982, 17, 983, 984, 985, 986, 987, 988, 990] (by decide +kernel) (by decide +kernel) w h).1
set_option maxRecDepth 20000 in
theorem inL_r14 : ∀ w ∈ wsL_law_r14, w ∈ lw_tbl := fun w h => (goodIn_r wsL_law_r14 [18, 991, 360, 361, 362, 363, 168, 364, 365, 992, 993, 994, 995, 366, 367, 368, 369, 170, 370, 996, 997, 998, 999, 371] (by decide +kernel) (by decide +kernel) w h).1
set_option maxRecDepth 20000 in
theorem inL_r15 : ∀ w ∈ wsL_law_r15, w ∈ lw_tbl := fun w h => (goodIn_r wsL_law_r15 [372, 373, 374, 172, 1000, 1001, 1002, 1003, 375, 376, 377, 378, 212, 207, 1004, 1005, 1006, 1007, 865, 379, 380, 381, 382, 209] (by decide +kernel) (by decide +kernel) w h).1
set_option maxRecDepth 20000 in
theorem inL_r16 : ∀ w ∈ wsL_law_r16, w ∈ lw_tbl := fun w h => (goodIn_r wsL_law_r16 [124, 383, 384, 385, 386, 213, 211, 387, 388, 389, 390, 391, 1360, 392, 393, 394, 395, 1357, 396, 397, 398, 399, 402, 403] (by decide +kernel) (by decide +kernel) w h).1
set_option maxRecDepth 20000 in
theorem inL_r17 : ∀ w ∈ wsL_law_r17, w ∈ lw_tbl := fun w h => (goodIn_r wsL_law_r17 [404, 405, 406, 407, 408, 58, 409, 1358, 410, 411, 412, 413, 414, 1359, 416, 417, 418, 419, 420, 421, 422, 423, 424, 425] (by decide +kernel) (by decide +kernel) w h).1
set_option maxRecDepth 20000 in
theorem inL_r18 : ∀ w ∈ wsL_law_r18, w ∈ lw_tbl := fun w h => (goodIn_r wsL_law_r18 [59, 426, 427, 428, 429, 430, 432, 433, 60, 434, 435, 436, 61, 437, 438, 439, 440, 441, 442, 443, 444, 445, 446, 447] (by decide +kernel) (by decide +kernel) w h).1
set_option maxRecDepth 20000 in
theorem inL_r19 : ∀ w ∈ wsL_law_r19, w ∈ lw_tbl := fun w h => (goodIn_r wsL_law_r19 [448, 450, 452, 454, 455, 62, 456, 457, 458, 459, 460, 461, 462, 463, 464, 465, 466, 467, 468, 469, 470, 471, 472, 473] (by decide +kernel) (by decide +kernel) w h).1
set_option maxRecDepth 20000 in
theorem inL_r20 : ∀ w ∈ wsL_law_r20, w ∈ lw_tbl := fun w h => (goodIn_r wsL_law_r20 [474, 476, 0, 477, 482, 483, 478, 479, 480, 481, 485, 486, 488, 489, 489, 490, 1361, 491, 492, 493, 494, 495, 496, 497] (by decide +kernel) (by decide +kernel) w h).1
set_option maxRecDepth 20000 in
theorem inL_r21 : ∀ w ∈ wsL_law_r21, w ∈ lw_tbl := fun w h => (goodIn_r wsL_law_r21 [498, 1008, 1009, 1010, 1011, 866, 867, 870, 1012, 1014, 19, 1015, 1016, 1018, 20, 1019, 1020, 1022, 21, 1023, 1025, 1026, 1027, 1028] (by decide +kernel) (by decide +kernel) w h).1
set_option maxRecDepth 20000 in
theorem inL_r22 : ∀ w ∈ wsL_law_r22, w ∈ lw_tbl := fun w h => (goodIn_r wsL_law_r22 [1029, 1030, 1031, 1032, 1036, 1037, 64, 1038, 1039, 1040, 1041, 1033, 1034, 1035, 1042, 1043, 1044, 1045, 1046, 1047, 1048, 1049, 1050, 1051] (by decide +kernel) (by decide +kernel) w h).1
set_option maxRecDepth 20000 in
theorem inL_r23 : ∀ w ∈ wsL_law_r23, w ∈ lw_tbl := fun w h => (goodIn_r wsL_law_r23 [1052, 1053, 1054, 1055, 1056, 1057, 1058, 1059, 1060, 1061, 1062, 1063, 1064, 1065, 1066, 1067, 1068, 1069, 1070, 65, 1071, 1072, 1073, 1074] (by decide +kernel) (by decide +kernel) w h).1
set_option maxRecDepth 20000 in
theorem inL_r24 : ∀ w ∈ wsL_law_r24, w ∈ lw_tbl := fun w h => (goodIn_r wsL_law_r24 [1075, 1076, 1077, 1078, 1079, 1080, 1081, 1083, 22, 1084, 1085, 1087, 23, 1088, 1089, 1091, 24, 1092, 1093, 1095, 25, 1096, 1097, 1098] (by decide +kernel) (by decide +kernel) w h).1
set_option maxRecDepth 20000 in
theorem inL_r25 : ∀ w ∈ wsL_law_r25, w ∈ lw_tbl := fun w h => (goodIn_r wsL_law_r25 [1099, 1100, 1101, 1102, 1103, 1104, 499, 500, 501, 502, 503, 504, 505, 506, 92, 507, 508, 509, 510, 511, 512, 513, 514, 515] (by decide +kernel) (by decide +kernel) w h).1
set_option maxRecDepth 20000 in
theorem inL_r26 : ∀ w ∈ wsL_law_r26, w ∈ lw_tbl := fun w h => (goodIn_r wsL_law_r26 [516, 517, 518, 519, 520, 521, 522, 523, 524, 525, 526, 528, 529, 530, 531, 532, 533, 534, 535, 536, 537, 538, 539, 540] (by decide +kernel) (by decide +kernel) w h).1
set_option maxRecDepth 20000 in
theorem inL_r27 : ∀ w ∈ wsL_law_r27, w ∈ lw_tbl := fun w h => (goodIn_r wsL_law_r27 [541, 542, 543, 544, 545, 546, 547, 548, 549, 550, 551, 552, 553, 554, 555, 556, 557, 558, 559, 560, 561, 562, 563, 564] (by decide +kernel) (by decide +kernel) w h).1
set_option maxRecDepth 20000 in
theorem inL_r28 : ∀ w ∈ wsL_law_r28, w ∈ lw_tbl := fun w h => (goodIn_r wsL_law_r28 [565, 566, 1256, 1257, 1258, 1259, 1260, 1262, 45, 1263, 1228, 1230, 43, 1231, 1232, 1234, 44, 1235, 1236, 1175, 1177, 36, 1178, 1179] (by decide +kernel) (by decide +kernel) w h).1
set_option maxRecDepth 20000 in
theorem inL_r29 : ∀ w ∈ wsL_law_r29, w ∈ lw_tbl := fun w h => (goodIn_r wsL_law_r29 [1181, 37, 1182, 1163, 1165, 35, 1166, 1183, 1185, 38, 1186, 1138, 1140, 30, 1141, 1142, 1144, 31, 1145, 1146, 1148, 32, 1149, 1150] (by decide +kernel) (by decide +kernel) w h).1
set_option maxRecDepth 20000 in
theorem inL_r30 : ∀ w ∈ wsL_law_r30, w ∈ lw_tbl := fun w h => (goodIn_r wsL_law_r30 [1151, 1153, 33, 1154, 1264, 1266, 46, 1267, 567, 568, 569, 570, 571, 572, 1105, 1106, 1107, 1108, 573, 574, 575, 576, 577, 578] (by decide +kernel) (by decide +kernel) w h).1
set_option maxRecDepth 20000 in
theorem inL_r31 : ∀ w ∈ wsL_law_r31, w ∈ lw_tbl := fun w h => (goodIn_r wsL_law_r31 [579, 580, 581, 582, 583, 1109, 1110, 1111, 1112, 584, 585, 586, 587, 588, 589, 590, 591, 592, 593, 594, 595, 596, 597, 598] (by decide +kernel) (by decide +kernel) w h).1
set_option maxRecDepth 20000 in
theorem inL_r32 : ∀ w ∈ wsL_law_r32, w ∈ lw_tbl := fun w h => (goodIn_r wsL_law_r32 [599, 600, 601, 602, 603, 604, 1113, 1114, 1115, 1116, 1117, 1119, 26, 1120, 1121, 1123, 27, 1124, 605, 606, 607, 608, 609, 1125] (by decide +kernel) (by decide +kernel) w h).1
set_option maxRecDepth 20000 in
theorem inL_r33 : ∀ w ∈ wsL_law_r33, w ∈ lw_tbl := fun w h => (goodIn_r wsL_law_r33 [610, 611, 612, 613, 614, 615, 616, 617, 618, 619, 620, 621, 622, 623, 624, 625, 626, 627, 628, 629, 1126, 1127, 1128, 1129] (by decide +kernel) (by decide +kernel) w h).1
set_option maxRecDepth 20000 in
theorem inL_r34 : ∀ w ∈ wsL_law_r34, w ∈ lw_tbl := fun w h => (goodIn_r wsL_law_r34 [1130, 1132, 28, 1133, 1134, 1136, 29, 1137, 1155, 1157, 34, 1158, 630, 631, 632, 633, 634, 635, 636, 637, 1159, 1160, 1161, 1162] (by decide +kernel) (by decide +kernel) w h).1
set_option maxRecDepth 20000 in
theorem inL_r35 : ∀ w ∈ wsL_law_r35, w ∈ lw_tbl := fun w h => (goodIn_r wsL_law_r35 [638, 639, 640, 641, 642, 643, 644, 645, 646, 1167, 1168, 1169, 1170, 647, 648, 649, 650, 651, 652, 653, 654, 655, 656, 657] (by decide +kernel) (by decide +kernel) w h).1
set_option maxRecDepth 20000 in
theorem inL_r36 : ∀ w ∈ wsL_law_r36, w ∈ lw_tbl := fun w h => (goodIn_r wsL_law_r36 [658, 659, 660, 661, 662, 663, 664, 665, 666, 667, 668, 669, 670, 671, 672, 673, 674, 675, 676, 1171, 1172, 1173, 1174, 1187] (by decide +kernel) (by decide +kernel) w h).1
set_option maxRecDepth 20000 in
theorem inL_r37 : ∀ w ∈ wsL_law_r37, w ∈ lw_tbl := fun w h => (goodIn_r wsL_law_r37 [1189, 39, 1190, 1191, 1193, 40, 1194, 1195, 1196, 1197, 1199, 41, 1200, 1201, 1203, 42, 1204, 677, 678, 679, 680, 1205, 1206, 1207] (by decide +kernel) (by decide +kernel) w h).1
set_option maxRecDepth 20000 in
theorem inL_r38 : ∀ w ∈ wsL_law_r38, w ∈ lw_tbl := fun w h => (goodIn_r wsL_law_r38 [1208, 681, 682, 683, 684, 685, 686, 687, 688, 689, 690, 691, 692, 693, 1209, 1210, 1211, 1212, 1223, 1213, 1214, 67, 1215, 1219] (by decide +kernel) (by decide +kernel) w h).1
set_option maxRecDepth 20000 in
theorem inL_r39 : ∀ w ∈ wsL_law_r39, w ∈ lw_tbl := fun w h => (goodIn_r wsL_law_r39 [1221, 1220, 67, 1222, 1216, 1217, 1218, 694, 695, 696, 697, 698, 1224, 1225, 1226, 1227, 699, 700, 701, 702, 703, 1237, 1238, 1239] (by decide +kernel) (by decide +kernel) w h).1
set_option maxRecDepth 20000 in
theorem inL_r40 : ∀ w ∈ wsL_law_r40, w ∈ lw_tbl := fun w h => (goodIn_r wsL_law_r40 [1240, 704, 705, 706, 707, 718, 708, 709, 710, 711, 712, 713, 714, 715, 716, 717, 1241, 1242, 1243, 1244, 1255, 1245, 1246, 68] (by decide +kernel) (by decide +kernel) w h).1
set_option maxRecDepth 20000 in
theorem inL_r41 : ∀ w ∈ wsL_law_r41, w ∈ lw_tbl := fun w h => (goodIn_r wsL_law_r41 [1247, 1251, 1253, 1252, 68, 1254, 1248, 1249, 1250, 719, 720, 721, 722, 174, 723, 724, 725, 1268, 1269, 1270, 1271, 726, 727, 728] (by decide +kernel) (by decide +kernel) w h).1
set_option maxRecDepth 20000 in
theorem inL_r42 : ∀ w ∈ wsL_law_r42, w ∈ lw_tbl := fun w h => (goodIn_r wsL_law_r42 [729, 730, 731, 732, 733, 125, 734, 735, 736, 1272, 1273, 1274, 1275, 1276, 1278, 47, 1279, 737, 738, 739, 740, 741, 742, 743] (by decide +kernel) (by decide +kernel) w h).1
set_option maxRecDepth 20000 in
theorem inL_r43 : ∀ w ∈ wsL_law_r43, w ∈ lw_tbl := fun w h => (goodIn_r wsL_law_r43 [744, 1280, 1281, 1282, 1283, 1284, 1285, 1286, 745, 746, 747, 748, 1287, 1288, 1289, 1290, 749, 750, 751, 752, 176, 1291, 1292, 1293] (by decide +kernel) (by decide +kernel) w h).1
set_option maxRecDepth 20000 in
theorem inL_r44 : ∀ w ∈ wsL_law_r44, w ∈ lw_tbl := fun w h => (goodIn_r wsL_law_r44 [1294, 1295, 1297, 48, 1298, 753, 754, 755, 756, 757, 758, 759, 760, 768, 767, 766, 69, 171, 761, 762, 763, 764, 765, 769] (by decide +kernel) (by decide +kernel) w h).1
set_option maxRecDepth 20000 in
theorem inL_r45 : ∀ w ∈ wsL_law_r45, w ∈ lw_tbl := fun w h => (goodIn_r wsL_law_r45 [770, 771, 772, 773, 1299, 1300, 1301, 1302, 1303, 1304, 1305, 1306, 1308, 49, 1309, 774, 775, 776, 777, 178, 1310, 1311, 1312, 1313] (by decide +kernel) (by decide +kernel) w h).1
set_option maxRecDepth 20000 in
theorem inL_r46 : ∀ w ∈ wsL_law_r46, w ∈ lw_tbl := fun w h => (goodIn_r wsL_law_r46 [778, 779, 780, 781, 1314, 1315, 1316, 1317, 782, 783, 784, 785, 236, 234, 786, 788, 1, 789, 790, 791, 792, 793, 794, 795] (by decide +kernel) (by decide +kernel) w h).1
set_option maxRecDepth 20000 in
theorem inL_r47 : ∀ w ∈ wsL_law_r47, w ∈ lw_tbl := fun w h => (goodIn_r wsL_law_r47 [796, 797, 237, 1318, 1319, 1320, 1321, 1322, 1323, 1324, 798, 799, 800, 801, 251, 1325, 1326, 1327, 1328, 863, 802, 803, 804, 805] (by decide +kernel) (by decide +kernel) w h).1
set_option maxRecDepth 20000 in
theorem inL_r48 : ∀ w ∈ wsL_law_r48, w ∈ lw_tbl := fun w h => (goodIn_r wsL_law_r48 [1329, 1330, 1331, 1332, 806, 807, 808, 809, 1333, 1334, 1335, 1336, 810, 811, 812, 813, 814, 815, 816, 817, 818, 819, 820, 1337] (by decide +kernel) (by decide +kernel) w h).1
set_option maxRecDepth 20000 in
theorem inL_r49 : ∀ w ∈ wsL_law_r49, w ∈ lw_tbl := fun w h => (goodIn_r wsL_law_r49 [1338, 1339, 1340, 821, 822, 823, 824, 825, 826, 827, 828, 1341, 1342, 1343, 1344, 1345, 1346, 1347, 829, 830, 831, 832, 1348, 1349] (by decide +kernel) (by decide +kernel) w h).1
set_option maxRecDepth 20000 in
theorem inL_r50 : ∀ w ∈ wsL_law_r50, w ∈ lw_tbl := fun w h => (goodIn_r wsL_law_r50 [1350, 1351, 833, 834, 835, 836, 841, 837, 838, 839, 840, 1352, 1353, 1354, 1355] (by decide +kernel) (by decide +kernel) w h).1
theorem inX1 : ∀ w ∈ wsX10, w ∈ lw_tbl := by decide +kernel
theorem inX2 : ∀ w ∈ wsX20, w ∈ lw_tbl := by decide +kernel
theorem inX3 : ∀ w ∈ wsX30, w ∈ lw_tbl := by decide +kernel
theorem inX4 : ∀ w ∈ wsX40, w ∈ lw_tbl := by decide +kernel
theorem inX5 : ∀ w ∈ wsX50, w ∈ lw_tbl := by decide +kernel
theorem inX7 : ∀ w ∈ wsX70, w ∈ lw_tbl := by decide +kernel
theorem inX8 : ∀ w ∈ wsX80, w ∈ lw_tbl := by decide +kernel
/-- the words of wsL_law, in their order, nested to one side alone: a place is found fast -/
def wsL_fl : List Cond := wsL_law_r1 ++ (wsL_law_r2 ++ (wsL_law_r3 ++ (wsL_law_r4 ++ (wsL_law_r5 ++ (wsL_law_r6 ++ (wsL_law_r7 ++ (wsL_law_r8 ++ (wsL_law_r9 ++ (wsL_law_r10 ++ (wsL_law_r11 ++ (wsL_law_r12 ++ (wsL_law_r13 ++ (wsL_law_r14 ++ (wsL_law_r15 ++ (wsL_law_r16 ++ (wsL_law_r17 ++ (wsL_law_r18 ++ (wsL_law_r19 ++ (wsL_law_r20 ++ (wsL_law_r21 ++ (wsL_law_r22 ++ (wsL_law_r23 ++ (wsL_law_r24 ++ (wsL_law_r25 ++ (wsL_law_r26 ++ (wsL_law_r27 ++ (wsL_law_r28 ++ (wsL_law_r29 ++ (wsL_law_r30 ++ (wsL_law_r31 ++ (wsL_law_r32 ++ (wsL_law_r33 ++ (wsL_law_r34 ++ (wsL_law_r35 ++ (wsL_law_r36 ++ (wsL_law_r37 ++ (wsL_law_r38 ++ (wsL_law_r39 ++ (wsL_law_r40 ++ (wsL_law_r41 ++ (wsL_law_r42 ++ (wsL_law_r43 ++ (wsL_law_r44 ++ (wsL_law_r45 ++ (wsL_law_r46 ++ (wsL_law_r47 ++ (wsL_law_r48 ++ (wsL_law_r49 ++ (wsL_law_r50 ++ (wsX70 ++ (wsX80 ++ (wsX30 ++ (wsX50 ++ (wsX40 ++ (wsX10 ++ (wsX20 ++ ([] : List Cond)))))))))))))))))))))))))))))))))))))))))))))))))))))))))
theorem wsL_fl_in : ∀ w ∈ wsL_fl, w ∈ lw_tbl := List.forall_mem_append.mpr ⟨inL_r1, List.forall_mem_append.mpr ⟨inL_r2, List.forall_mem_append.mpr ⟨inL_r3, List.forall_mem_append.mpr ⟨inL_r4, List.forall_mem_append.mpr ⟨inL_r5, List.forall_mem_append.mpr ⟨inL_r6, List.forall_mem_append.mpr ⟨inL_r7, List.forall_mem_append.mpr ⟨inL_r8, List.forall_mem_append.mpr ⟨inL_r9, List.forall_mem_append.mpr ⟨inL_r10, List.forall_mem_append.mpr ⟨inL_r11, List.forall_mem_append.mpr ⟨inL_r12, List.forall_mem_append.mpr ⟨inL_r13, List.forall_mem_append.mpr ⟨inL_r14, List.forall_mem_append.mpr ⟨inL_r15, List.forall_mem_append.mpr ⟨inL_r16, List.forall_mem_append.mpr ⟨inL_r17, List.forall_mem_append.mpr ⟨inL_r18, List.forall_mem_append.mpr ⟨inL_r19, List.forall_mem_append.mpr ⟨inL_r20, List.forall_mem_append.mpr ⟨inL_r21, List.forall_mem_append.mpr ⟨inL_r22, List.forall_mem_append.mpr ⟨inL_r23, List.forall_mem_append.mpr ⟨inL_r24, List.forall_mem_append.mpr ⟨inL_r25, List.forall_mem_append.mpr ⟨inL_r26, List.forall_mem_append.mpr ⟨inL_r27, List.forall_mem_append.mpr ⟨inL_r28, List.forall_mem_append.mpr ⟨inL_r29, List.forall_mem_append.mpr ⟨inL_r30, List.forall_mem_append.mpr ⟨inL_r31, List.forall_mem_append.mpr ⟨inL_r32, List.forall_mem_append.mpr ⟨inL_r33, List.forall_mem_append.mpr ⟨inL_r34, List.forall_mem_append.mpr ⟨inL_r35, List.forall_mem_append.mpr ⟨inL_r36, List.forall_mem_append.mpr ⟨inL_r37, List.forall_mem_append.mpr ⟨inL_r38, List.forall_mem_append.mpr ⟨inL_r39, List.forall_mem_append.mpr ⟨inL_r40, List.forall_mem_append.mpr ⟨inL_r41, List.forall_mem_append.mpr ⟨inL_r42, List.forall_mem_append.mpr ⟨inL_r43, List.forall_mem_append.mpr ⟨inL_r44, List.forall_mem_append.mpr ⟨inL_r45, List.forall_mem_append.mpr ⟨inL_r46, List.forall_mem_append.mpr ⟨inL_r47, List.forall_mem_append.mpr ⟨inL_r48, List.forall_mem_append.mpr ⟨inL_r49, List.forall_mem_append.mpr ⟨inL_r50, List.forall_mem_append.mpr ⟨inX7, List.forall_mem_append.mpr ⟨inX8, List.forall_mem_append.mpr ⟨inX3, List.forall_mem_append.mpr ⟨inX5, List.forall_mem_append.mpr ⟨inX4, List.forall_mem_append.mpr ⟨inX1, List.forall_mem_append.mpr ⟨inX2, fun _ h => absurd h List.not_mem_nil⟩⟩⟩⟩⟩⟩⟩⟩⟩⟩⟩⟩⟩⟩⟩⟩⟩⟩⟩⟩⟩⟩⟩⟩⟩⟩⟩⟩⟩⟩⟩⟩⟩⟩⟩⟩⟩⟩⟩⟩⟩⟩⟩⟩⟩⟩⟩⟩⟩⟩⟩⟩⟩⟩⟩⟩⟩
