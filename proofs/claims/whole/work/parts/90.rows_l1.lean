set_option maxRecDepth 20000 in
theorem ggL_law_X7_init : GoodIn wsL_fl wsX7_init := goodIn_r _ [9, 10, 11, 12, 13, 14, 15, 16, 17, 18, 19, 20, 21, 22, 23, 24, 25, 26, 27, 28, 29, 30, 31, 32, 33, 34, 35, 36, 37, 38, 39, 40, 41, 42, 43, 44, 45, 46, 47, 48, 49, 50, 51, 52, 53, 54, 55, 56, 57, 58, 59, 60, 61, 62, 63, 64, 65, 66, 67, 68, 69, 70, 71, 72, 73, 74, 75, 76, 77, 78, 79, 80, 81, 82, 83, 2, 84, 85, 86, 87, 88, 89, 90, 91, 92, 93, 94, 95, 96, 97, 98, 99, 1210, 1211, 1212, 1213, 1214, 1215, 1216, 1217, 1218, 1189, 1190, 1191, 1192, 1193, 1194, 1219, 1220, 1221, 1222, 1223, 1224, 1225, 1226, 1227, 1228, 1229, 1230, 1231, 1232, 1233, 1234, 1235, 1236] (by decide +kernel) (by decide +kernel)
set_option maxRecDepth 20000 in
theorem gL_law_X7_init : GoodIn wsL_fl (wsX7_init) := ggL_law_X7_init
set_option maxRecDepth 20000 in
theorem ggL_law_X8_init : GoodIn wsL_fl wsX8_init := goodIn_r _ [102, 103, 11, 12, 35, 104, 105, 106, 107, 108, 109, 110, 111, 97, 112, 113, 114, 115, 116, 5, 117, 118, 119, 120, 121, 122, 123, 124, 125, 1195, 1196, 1197, 1198, 1199, 1200, 1201, 1202, 1203, 1204, 1205, 1206, 1207, 1208, 1209] (by decide +kernel) (by decide +kernel)
set_option maxRecDepth 20000 in
theorem gL_law_X8_init : GoodIn wsL_fl (wsX8_init) := ggL_law_X8_init
set_option maxRecDepth 20000 in
theorem ggL_law_X7_teams : GoodIn wsL_fl wsX7_teams := goodIn_r _ [129, 16, 130, 131, 132, 133, 134, 15, 135, 34, 39, 44, 45, 46, 66, 67, 68, 33, 69, 70, 71, 72, 73, 74, 50, 51, 52, 53, 54, 75, 76, 77, 78, 79, 80, 81, 82, 83, 2, 84, 136, 137, 138, 43, 139, 140, 1189, 1190, 1191, 1192, 1193, 1194, 1210, 1211, 1212, 1213, 1214, 1215, 1216, 1217, 1218, 1227, 1228, 1229, 1230, 1231, 1232, 1233, 1234, 1235, 1236] (by decide +kernel) (by decide +kernel)
set_option maxRecDepth 20000 in
theorem gL_law_X7_teams : GoodIn wsL_fl (wsV RL 13 RX7 yX7_teams wsX7_teams) := goodIn_app (goodIn_r _ [126, 127, 128, 2] (by decide +kernel) (by decide +kernel)) ggL_law_X7_teams
set_option maxRecDepth 20000 in
theorem ggL_law_X8_teams : GoodIn wsL_fl wsX8_teams := goodIn_r _ [144, 104, 114, 115, 116, 5, 117, 118, 119, 120, 121, 122, 123, 124, 125, 1195, 1196, 1197, 1198, 1199, 1200, 1201, 1202, 1203, 1204, 1205, 1206, 1207, 1208, 1209] (by decide +kernel) (by decide +kernel)
set_option maxRecDepth 20000 in
theorem gL_law_X8_teams : GoodIn wsL_fl (wsV RL 17 RX8 yX8_teams wsX8_teams) := goodIn_app (goodIn_r _ [141, 142, 143, 5] (by decide +kernel) (by decide +kernel)) ggL_law_X8_teams
set_option maxRecDepth 20000 in
theorem ggL_law_X7_ground : GoodIn wsL_fl wsX7_ground := goodIn_r _ [148, 16, 130, 149, 150, 151, 152, 153, 33, 154, 70, 155, 156, 2, 157, 1189, 1190, 1191, 1192, 1193, 1194, 1210, 1211, 1212, 1213, 1214, 1215, 1216, 1217, 1218, 1227, 1228, 1229, 1230, 1231, 1232, 1233] (by decide +kernel) (by decide +kernel)
set_option maxRecDepth 20000 in
theorem gL_law_X7_ground : GoodIn wsL_fl (wsV RL 18 RX7 yX7_ground wsX7_ground) := goodIn_app (goodIn_r _ [145, 146, 147, 2] (by decide +kernel) (by decide +kernel)) ggL_law_X7_ground
set_option maxRecDepth 20000 in
theorem ggL_law_X8_ground : GoodIn wsL_fl wsX8_ground := goodIn_r _ [161, 104, 162, 163, 164, 5, 165, 166, 167, 168, 169, 170, 171, 1195, 1196, 1197, 1198, 1199, 1200, 1201, 1202, 1203, 1204, 1205, 1206, 1207, 1208, 1209] (by decide +kernel) (by decide +kernel)
set_option maxRecDepth 20000 in
theorem gL_law_X8_ground : GoodIn wsL_fl (wsV RL 22 RX8 yX8_ground wsX8_ground) := goodIn_app (goodIn_r _ [158, 159, 160, 5] (by decide +kernel) (by decide +kernel)) ggL_law_X8_ground
set_option maxRecDepth 20000 in
theorem ggL_law_X7_swap : GoodIn wsL_fl wsX7_swap := goodIn_r _ [175, 16, 130, 176, 177, 178, 15, 179, 34, 180, 181, 182, 33, 183, 70, 184, 76, 77, 78, 185, 152, 153, 154, 186, 2, 187, 156, 157, 188, 189, 190, 191, 40, 192, 193, 194, 195, 196, 197, 198, 199, 50, 75, 200, 201, 202, 203, 51, 71, 72, 73, 74, 52, 53, 54, 79, 80, 81, 82, 83, 84, 204, 205, 206, 207, 208, 209, 210, 211, 212, 213, 214, 215, 216, 217, 218, 219, 220, 221, 222, 223, 224, 225, 226, 227, 228, 229, 230, 1189, 1190, 1191, 1192, 1193, 1194, 1210, 1211, 1212, 1213, 1214, 1215, 1216, 1217, 1218, 1227, 1228, 1229, 1230, 1231, 1232, 1233] (by decide +kernel) (by decide +kernel)
set_option maxRecDepth 20000 in
theorem gL_law_X7_swap : GoodIn wsL_fl (wsV RL 23 RX7 yX7_swap wsX7_swap) := goodIn_app (goodIn_r _ [172, 173, 174, 2] (by decide +kernel) (by decide +kernel)) ggL_law_X7_swap
set_option maxRecDepth 20000 in
theorem ggL_law_X8_swap : GoodIn wsL_fl wsX8_swap := goodIn_r _ [234, 235, 236, 237, 5, 238, 239, 240, 241, 242, 104, 166, 167, 168, 243, 244, 245, 246, 247, 248, 249, 250, 251, 252, 253, 254, 255, 256, 257, 258, 259, 260, 261, 262, 263, 264, 265, 266, 1195, 1196, 1197, 1198, 1199, 1200, 1201, 1202, 1203, 1204, 1205, 1206, 1207, 1208, 1209] (by decide +kernel) (by decide +kernel)
set_option maxRecDepth 20000 in
theorem gL_law_X8_swap : GoodIn wsL_fl (wsV RL 27 RX8 yX8_swap wsX8_swap) := goodIn_app (goodIn_r _ [231, 232, 233, 5] (by decide +kernel) (by decide +kernel)) ggL_law_X8_swap
set_option maxRecDepth 20000 in
theorem ggL_law_X7_turn : GoodIn wsL_fl wsX7_turn := goodIn_r _ [270, 16, 130, 176, 177, 178, 15, 179, 34, 180, 181, 182, 33, 183, 70, 184, 76, 77, 78, 185, 152, 153, 154, 186, 2, 187, 156, 157, 188, 189, 190, 191, 40, 192, 193, 194, 195, 196, 197, 198, 199, 50, 75, 200, 201, 202, 203, 51, 71, 72, 73, 74, 52, 53, 54, 79, 80, 81, 82, 83, 84, 204, 205, 206, 207, 208, 209, 210, 211, 212, 213, 214, 271, 1189, 1190, 1191, 1192, 1193, 1194, 1210, 1211, 1212, 1213, 1214, 1215, 1216, 1217, 1218, 1227, 1228, 1229, 1230, 1231, 1232, 1233] (by decide +kernel) (by decide +kernel)
set_option maxRecDepth 20000 in
theorem gL_law_X7_turn : GoodIn wsL_fl (wsV RL 28 RX7 yX7_turn wsX7_turn) := goodIn_app (goodIn_r _ [267, 268, 269, 2] (by decide +kernel) (by decide +kernel)) ggL_law_X7_turn
set_option maxRecDepth 20000 in
theorem ggL_law_X8_turn : GoodIn wsL_fl wsX8_turn := goodIn_r _ [275, 235, 236, 237, 5, 238, 239, 240, 241, 242, 104, 166, 167, 168, 276, 277, 278, 279, 280, 281, 282, 283, 122, 123, 124, 125, 247, 248, 249, 250, 284, 285, 286, 287, 1195, 1196, 1197, 1198, 1199, 1200, 1201, 1202, 1203, 1204, 1205, 1206, 1207, 1208, 1209] (by decide +kernel) (by decide +kernel)
set_option maxRecDepth 20000 in
theorem gL_law_X8_turn : GoodIn wsL_fl (wsV RL 31 RX8 yX8_turn wsX8_turn) := goodIn_app (goodIn_r _ [272, 273, 274, 5] (by decide +kernel) (by decide +kernel)) ggL_law_X8_turn
set_option maxRecDepth 20000 in
theorem ggL_law_X7_exchange : GoodIn wsL_fl wsX7_exchange := goodIn_r _ [291, 16, 130, 131, 176, 177, 178, 15, 179, 34, 180, 181, 182, 33, 183, 70, 184, 76, 77, 78, 185, 152, 153, 154, 186, 2, 187, 156, 157, 188, 189, 190, 191, 40, 192, 193, 194, 195, 196, 197, 198, 199, 50, 75, 200, 201, 202, 203, 51, 71, 72, 73, 74, 52, 53, 54, 79, 80, 81, 82, 83, 84, 204, 205, 206, 207, 208, 209, 210, 211, 212, 213, 214, 292, 293, 294, 295, 296, 297, 298, 299, 227, 228, 229, 230, 1189, 1190, 1191, 1192, 1193, 1194, 1210, 1211, 1212, 1213, 1214, 1215, 1216, 1217, 1218, 1227, 1228, 1229, 1230, 1231, 1232, 1233] (by decide +kernel) (by decide +kernel)
set_option maxRecDepth 20000 in
theorem gL_law_X7_exchange : GoodIn wsL_fl (wsV RL 32 RX7 yX7_exchange wsX7_exchange) := goodIn_app (goodIn_r _ [288, 289, 290, 2] (by decide +kernel) (by decide +kernel)) ggL_law_X7_exchange
set_option maxRecDepth 20000 in
theorem ggL_law_X8_exchange : GoodIn wsL_fl wsX8_exchange := goodIn_r _ [303, 104, 162, 163, 164, 5, 165, 166, 167, 168, 304, 305, 306, 307, 239, 240, 241, 242, 308, 309, 310, 311, 312, 313, 314, 315, 263, 264, 265, 266, 1195, 1196, 1197, 1198, 1199, 1200, 1201, 1202, 1203, 1204, 1205, 1206, 1207, 1208, 1209] (by decide +kernel) (by decide +kernel)
set_option maxRecDepth 20000 in
theorem gL_law_X8_exchange : GoodIn wsL_fl (wsV RL 35 RX8 yX8_exchange wsX8_exchange) := goodIn_app (goodIn_r _ [300, 301, 302, 5] (by decide +kernel) (by decide +kernel)) ggL_law_X8_exchange
set_option maxRecDepth 20000 in
theorem ggL_law_X7_bar : GoodIn wsL_fl wsX7_bar := goodIn_r _ [319, 16, 130, 320, 321, 228, 229, 33, 230, 70, 322, 83, 2, 84, 1189, 1190, 1191, 1192, 1193, 1194, 1210, 1211, 1212, 1213, 1214, 1215, 1216, 1217, 1218, 1227, 1228, 1229, 1230, 1231, 1232, 1233] (by decide +kernel) (by decide +kernel)
set_option maxRecDepth 20000 in
theorem gL_law_X7_bar : GoodIn wsL_fl (wsV RL 36 RX7 yX7_bar wsX7_bar) := goodIn_app (goodIn_r _ [316, 317, 318, 2] (by decide +kernel) (by decide +kernel)) ggL_law_X7_bar
set_option maxRecDepth 20000 in
theorem ggL_law_X8_bar : GoodIn wsL_fl wsX8_bar := goodIn_r _ [326, 104, 162, 163, 164, 5, 165, 166, 167, 168, 235, 236, 237, 238, 239, 240, 241, 242, 1195, 1196, 1197, 1198, 1199, 1200, 1201, 1202, 1203, 1204, 1205, 1206, 1207, 1208, 1209] (by decide +kernel) (by decide +kernel)
set_option maxRecDepth 20000 in
theorem gL_law_X8_bar : GoodIn wsL_fl (wsV RL 39 RX8 yX8_bar wsX8_bar) := goodIn_app (goodIn_r _ [323, 324, 325, 5] (by decide +kernel) (by decide +kernel)) ggL_law_X8_bar
set_option maxRecDepth 20000 in
theorem ggL_law_X7_rate : GoodIn wsL_fl wsX7_rate := goodIn_r _ [330, 16, 331, 332, 186, 2, 187, 155, 156, 157, 188, 189, 190, 15, 191, 34, 40, 192, 193, 194, 33, 195, 70, 196, 197, 198, 199, 50, 75, 76, 77, 78, 200, 201, 202, 203, 51, 71, 72, 73, 74, 52, 53, 54, 79, 80, 81, 82, 83, 84, 204, 205, 206, 207, 208, 209, 210, 211, 212, 213, 214, 1189, 1190, 1191, 1192, 1193, 1194, 1210, 1211, 1212, 1213, 1214, 1215, 1216, 1217, 1218, 1227, 1228, 1229, 1230, 1231, 1232, 1233] (by decide +kernel) (by decide +kernel)
set_option maxRecDepth 20000 in
theorem gL_law_X7_rate : GoodIn wsL_fl (wsV RL 40 RX7 yX7_rate wsX7_rate) := goodIn_app (goodIn_r _ [327, 328, 329, 2] (by decide +kernel) (by decide +kernel)) ggL_law_X7_rate
set_option maxRecDepth 20000 in
theorem ggL_law_X8_rate : GoodIn wsL_fl wsX8_rate := goodIn_r _ [336, 104, 166, 167, 5, 168, 169, 170, 171, 1195, 1196, 1197, 1198, 1199, 1200, 1201, 1202, 1203, 1204, 1205, 1206, 1207, 1208, 1209] (by decide +kernel) (by decide +kernel)
set_option maxRecDepth 20000 in
theorem gL_law_X8_rate : GoodIn wsL_fl (wsV RL 43 RX8 yX8_rate wsX8_rate) := goodIn_app (goodIn_r _ [333, 334, 335, 5] (by decide +kernel) (by decide +kernel)) ggL_law_X8_rate
set_option maxRecDepth 20000 in
theorem ggL_law_X7_kind : GoodIn wsL_fl wsX7_kind := goodIn_r _ [340, 16, 341, 1189, 1190, 1191, 1192, 1193, 1194, 1210, 1211, 1212, 1213, 1214, 1215, 1216, 1217, 1218] (by decide +kernel) (by decide +kernel)
set_option maxRecDepth 20000 in
theorem gL_law_X7_kind : GoodIn wsL_fl (wsV RL 44 RX7 yX7_kind wsX7_kind) := goodIn_app (goodIn_r _ [337, 338, 339, 2] (by decide +kernel) (by decide +kernel)) ggL_law_X7_kind
set_option maxRecDepth 20000 in
theorem ggL_law_X8_kind : GoodIn wsL_fl wsX8_kind := goodIn_r _ [345, 104, 166, 167, 5, 168, 1195, 1196, 1197, 1198, 1199, 1200, 1201, 1202, 1203, 1204, 1205, 1206, 1207, 1208, 1209] (by decide +kernel) (by decide +kernel)
set_option maxRecDepth 20000 in
theorem gL_law_X8_kind : GoodIn wsL_fl (wsV RL 47 RX8 yX8_kind wsX8_kind) := goodIn_app (goodIn_r _ [342, 343, 344, 5] (by decide +kernel) (by decide +kernel)) ggL_law_X8_kind
set_option maxRecDepth 20000 in
theorem ggL_law_X7_feed : GoodIn wsL_fl wsX7_feed := goodIn_r _ [349, 22, 350, 351, 1189, 1190, 1191, 1192, 1193, 1194, 1219, 1220, 1221, 1222, 1223] (by decide +kernel) (by decide +kernel)
set_option maxRecDepth 20000 in
theorem gL_law_X7_feed : GoodIn wsL_fl (wsV RL 48 RX7 yX7_feed wsX7_feed) := goodIn_app (goodIn_r _ [346, 347, 348, 2] (by decide +kernel) (by decide +kernel)) ggL_law_X7_feed
set_option maxRecDepth 20000 in
theorem ggL_law_X8_feed : GoodIn wsL_fl wsX8_feed := goodIn_r _ [355, 356, 107, 166, 167, 5, 168, 1195, 1196, 1197, 1198, 1199, 1200, 1201, 1202, 1203, 1204, 1205, 1206, 1207, 1208, 1209] (by decide +kernel) (by decide +kernel)
set_option maxRecDepth 20000 in
theorem gL_law_X8_feed : GoodIn wsL_fl (wsV RL 51 RX8 yX8_feed wsX8_feed) := goodIn_app (goodIn_r _ [352, 353, 354, 5] (by decide +kernel) (by decide +kernel)) ggL_law_X8_feed
set_option maxRecDepth 20000 in
theorem ggL_law_X7_read : GoodIn wsL_fl wsX7_read := goodIn_r _ [360, 22, 350, 361, 362, 363, 364, 365, 21, 366, 91, 367, 368, 369, 137, 138, 43, 139, 140, 370, 371, 372, 373, 374, 92, 375, 376, 377, 378, 379, 380, 381, 382, 383, 89, 384, 385, 386, 387, 388, 389, 390, 391, 392, 393, 394, 395, 396, 397, 398, 399, 400, 401, 402, 403, 404, 405, 406, 407, 408, 409, 410, 411, 412, 413, 414, 415, 416, 417, 418, 419, 420, 421, 422, 423, 424, 425, 426, 427, 428, 429, 430, 431, 432, 433, 434, 435, 436, 437, 438, 439, 440, 441, 442, 443, 444, 445, 446, 447, 448, 449, 450, 451, 452, 60, 453, 454, 455, 456, 65, 457, 458, 459, 460, 2, 461, 462, 463, 464, 465, 466, 467, 468, 469, 470, 471, 472, 473, 474, 475, 127, 128, 129, 16, 130, 131, 132, 133, 134, 15, 135, 34, 39, 44, 45, 46, 66, 67, 68, 33, 69, 70, 71, 72, 73, 74, 50, 51, 52, 53, 54, 75, 76, 77, 78, 79, 80, 81, 82, 83, 84, 136, 476, 173, 174, 175, 176, 177, 178, 179, 180, 181, 182, 183, 184, 185, 152, 153, 154, 186, 187, 156, 157, 188, 189, 190, 191, 40, 192, 193, 194, 195, 196, 197, 198, 199, 200, 201, 202, 203, 204, 205, 206, 207, 208, 209, 210, 211, 212, 213, 214, 215, 216, 217, 218, 219, 220, 221, 222, 223, 224, 225, 226, 227, 228, 229, 230, 477, 268, 269, 270, 271, 478, 289, 290, 291, 292, 293, 294, 295, 296, 297, 298, 299, 479, 317, 318, 319, 320, 321, 322, 480, 328, 329, 330, 331, 332, 155, 481, 338, 339, 340, 341, 482, 146, 147, 148, 149, 150, 151, 1189, 1190, 1191, 1192, 1193, 1194, 1219, 1220, 1221, 1222, 1223, 1234, 1235, 1236, 1210, 1211, 1212, 1213, 1214, 1215, 1216, 1217, 1218, 1227, 1228, 1229, 1230, 1231, 1232, 1233] (by decide +kernel) (by decide +kernel)
set_option maxRecDepth 20000 in
theorem gL_law_X7_read : GoodIn wsL_fl (wsV RL 52 RX7 yX7_read wsX7_read) := goodIn_app (goodIn_r _ [357, 358, 359, 2] (by decide +kernel) (by decide +kernel)) ggL_law_X7_read
set_option maxRecDepth 20000 in
theorem ggL_law_X8_read : GoodIn wsL_fl wsX8_read := goodIn_r _ [486, 487, 488, 489, 356, 490, 491, 492, 5, 493, 108, 109, 494, 495, 496, 497, 107, 498, 499, 500, 501, 166, 167, 168, 502, 503, 504, 391, 505, 393, 404, 405, 406, 407, 398, 399, 506, 389, 390, 392, 394, 395, 396, 397, 507, 508, 410, 509, 510, 511, 63, 512, 513, 62, 64, 514, 515, 516, 517, 518, 519, 520, 521, 422, 522, 523, 524, 525, 526, 527, 528, 529, 530, 531, 427, 428, 429, 532, 533, 534, 415, 535, 536, 418, 537, 538, 539, 540, 431, 432, 433, 434, 435, 436, 541, 542, 543, 544, 545, 546, 547, 548, 549, 550, 551, 552, 553, 554, 555, 556, 401, 402, 403, 408, 409, 411, 412, 413, 414, 416, 417, 419, 420, 421, 423, 424, 425, 426, 430, 557, 558, 559, 560, 561, 562, 563, 564, 565, 566, 567, 568, 569, 570, 571, 572, 573, 142, 143, 144, 104, 114, 115, 116, 117, 118, 119, 120, 121, 122, 123, 124, 125, 574, 232, 233, 234, 235, 236, 237, 238, 239, 240, 241, 242, 243, 244, 245, 246, 247, 248, 249, 250, 251, 252, 253, 254, 255, 256, 257, 258, 259, 260, 261, 262, 263, 264, 265, 266, 575, 273, 274, 275, 276, 277, 278, 279, 280, 281, 282, 283, 284, 285, 286, 287, 576, 301, 302, 303, 162, 163, 164, 165, 304, 305, 306, 307, 308, 309, 310, 311, 312, 313, 314, 315, 577, 324, 325, 326, 578, 334, 335, 336, 169, 170, 171, 579, 343, 344, 345, 580, 159, 160, 161, 1195, 1196, 1197, 1198, 1199, 1200, 1201, 1202, 1203, 1204, 1205, 1206, 1207, 1208, 1209] (by decide +kernel) (by decide +kernel)
set_option maxRecDepth 20000 in
theorem gL_law_X8_read : GoodIn wsL_fl (wsV RL 56 RX8 yX8_read wsX8_read) := goodIn_app (goodIn_r _ [483, 484, 485, 5] (by decide +kernel) (by decide +kernel)) ggL_law_X8_read
set_option maxRecDepth 20000 in
theorem ggL_law_X7_step : GoodIn wsL_fl wsX7_step := goodIn_r _ [584, 16, 585, 586, 587, 15, 588, 34, 589, 590, 591, 592, 593, 594, 216, 217, 33, 218, 70, 219, 220, 221, 222, 223, 224, 225, 226, 53, 227, 228, 229, 230, 83, 2, 84, 595, 596, 597, 598, 40, 599, 186, 187, 600, 601, 602, 603, 604, 197, 198, 199, 50, 75, 76, 77, 78, 605, 606, 607, 608, 39, 609, 610, 611, 612, 613, 55, 614, 615, 616, 617, 618, 438, 439, 440, 296, 297, 298, 299, 52, 619, 152, 153, 154, 620, 621, 622, 623, 624, 625, 626, 627, 628, 629, 630, 631, 632, 633, 634, 635, 36, 636, 637, 63, 638, 37, 185, 639, 640, 641, 642, 643, 189, 190, 191, 192, 193, 194, 195, 196, 200, 201, 202, 203, 51, 71, 72, 73, 74, 54, 79, 80, 81, 82, 204, 205, 206, 207, 208, 209, 210, 211, 212, 213, 214, 1189, 1190, 1191, 1192, 1193, 1194, 1210, 1211, 1212, 1213, 1214, 1215, 1216, 1217, 1218, 1227, 1228, 1229, 1230, 1231, 1232, 1233] (by decide +kernel) (by decide +kernel)
set_option maxRecDepth 20000 in
theorem gL_law_X7_step : GoodIn wsL_fl (wsV RL 57 RX7 yX7_step wsX7_step) := goodIn_app (goodIn_r _ [581, 582, 583, 2] (by decide +kernel) (by decide +kernel)) ggL_law_X7_step
set_option maxRecDepth 20000 in
theorem ggL_law_X8_step : GoodIn wsL_fl wsX8_step := goodIn_r _ [647, 166, 167, 5, 168, 648, 649, 650, 651, 104, 652, 653, 654, 655, 251, 252, 253, 254, 255, 256, 257, 258, 239, 240, 241, 242, 259, 260, 261, 262, 263, 264, 265, 266, 656, 657, 658, 659, 660, 661, 662, 663, 664, 665, 666, 667, 668, 669, 670, 671, 672, 312, 313, 314, 315, 673, 674, 675, 676, 677, 678, 679, 680, 681, 682, 683, 684, 685, 686, 687, 688, 689, 637, 63, 638, 690, 691, 692, 693, 694, 695, 696, 697, 280, 281, 282, 283, 122, 123, 124, 125, 247, 248, 249, 250, 243, 244, 245, 246, 304, 305, 306, 307, 1195, 1196, 1197, 1198, 1199, 1200, 1201, 1202, 1203, 1204, 1205, 1206, 1207, 1208, 1209] (by decide +kernel) (by decide +kernel)
set_option maxRecDepth 20000 in
theorem gL_law_X8_step : GoodIn wsL_fl (wsV RL 60 RX8 yX8_step wsX8_step) := goodIn_app (goodIn_r _ [644, 645, 646, 5] (by decide +kernel) (by decide +kernel)) ggL_law_X8_step
set_option maxRecDepth 20000 in
theorem ggL_law_X7_game : GoodIn wsL_fl wsX7_game := goodIn_r _ [701, 16, 130, 702, 76, 77, 33, 78, 70, 271, 197, 198, 199, 50, 75, 703, 201, 202, 203, 51, 1189, 1190, 1191, 1192, 1193, 1194, 1210, 1211, 1212, 1213, 1214, 1215, 1216, 1217, 1218, 1227, 1228, 1229, 1230, 1231, 1232, 1233] (by decide +kernel) (by decide +kernel)
set_option maxRecDepth 20000 in
theorem gL_law_X7_game : GoodIn wsL_fl (wsV RL 61 RX7 yX7_game wsX7_game) := goodIn_app (goodIn_r _ [698, 699, 700, 2] (by decide +kernel) (by decide +kernel)) ggL_law_X7_game
set_option maxRecDepth 20000 in
theorem ggL_law_X8_game : GoodIn wsL_fl wsX8_game := goodIn_r _ [707, 235, 236, 237, 5, 238, 239, 240, 241, 242, 104, 166, 167, 168, 276, 277, 278, 279, 284, 285, 286, 287, 122, 123, 124, 125, 1195, 1196, 1197, 1198, 1199, 1200, 1201, 1202, 1203, 1204, 1205, 1206, 1207, 1208, 1209] (by decide +kernel) (by decide +kernel)
set_option maxRecDepth 20000 in
theorem gL_law_X8_game : GoodIn wsL_fl (wsV RL 64 RX8 yX8_game wsX8_game) := goodIn_app (goodIn_r _ [704, 705, 706, 5] (by decide +kernel) (by decide +kernel)) ggL_law_X8_game
set_option maxRecDepth 20000 in
theorem ggL_law_X7_of : GoodIn wsL_fl wsX7_of := goodIn_r _ [711, 16, 130, 321, 228, 229, 33, 230, 70, 712, 297, 298, 299, 52, 227, 83, 2, 84, 713, 224, 225, 226, 53, 714, 715, 716, 717, 54, 718, 606, 607, 15, 608, 34, 39, 609, 1189, 1190, 1191, 1192, 1193, 1194, 1210, 1211, 1212, 1213, 1214, 1215, 1216, 1217, 1218, 1227, 1228, 1229, 1230, 1231, 1232, 1233] (by decide +kernel) (by decide +kernel)
set_option maxRecDepth 20000 in
theorem gL_law_X7_of : GoodIn wsL_fl (wsV RL 65 RX7 yX7_of wsX7_of) := goodIn_app (goodIn_r _ [708, 709, 710, 2] (by decide +kernel) (by decide +kernel)) ggL_law_X7_of
set_option maxRecDepth 20000 in
theorem ggL_law_X8_of : GoodIn wsL_fl wsX8_of := goodIn_r _ [722, 104, 162, 163, 164, 5, 165, 166, 167, 168, 235, 236, 237, 238, 239, 240, 241, 242, 312, 313, 314, 315, 263, 264, 265, 266, 259, 260, 261, 262, 1195, 1196, 1197, 1198, 1199, 1200, 1201, 1202, 1203, 1204, 1205, 1206, 1207, 1208, 1209] (by decide +kernel) (by decide +kernel)
set_option maxRecDepth 20000 in
theorem gL_law_X8_of : GoodIn wsL_fl (wsV RL 68 RX8 yX8_of wsX8_of) := goodIn_app (goodIn_r _ [719, 720, 721, 5] (by decide +kernel) (by decide +kernel)) ggL_law_X8_of
set_option maxRecDepth 20000 in
theorem ggL_law_X7_season : GoodIn wsL_fl wsX7_season := goodIn_r _ [726, 16, 130, 341, 151, 152, 153, 33, 154, 70, 727, 728, 729, 730, 731, 732, 733, 734, 735, 736, 737, 738, 712, 297, 298, 299, 52, 227, 228, 229, 230, 83, 2, 84, 739, 740, 741, 742, 743, 223, 224, 225, 226, 53, 1189, 1190, 1191, 1192, 1193, 1194, 1210, 1211, 1212, 1213, 1214, 1215, 1216, 1217, 1218, 1227, 1228, 1229, 1230, 1231, 1232, 1233] (by decide +kernel) (by decide +kernel)
set_option maxRecDepth 20000 in
theorem gL_law_X7_season : GoodIn wsL_fl (wsV RL 69 RX7 yX7_season wsX7_season) := goodIn_app (goodIn_r _ [723, 724, 725, 2] (by decide +kernel) (by decide +kernel)) ggL_law_X7_season
set_option maxRecDepth 20000 in
theorem ggL_law_X8_season : GoodIn wsL_fl wsX8_season := goodIn_r _ [747, 104, 162, 163, 164, 5, 165, 166, 167, 168, 239, 240, 241, 242, 748, 749, 750, 751, 312, 313, 314, 315, 263, 264, 265, 266, 752, 753, 754, 755, 259, 260, 261, 262, 1195, 1196, 1197, 1198, 1199, 1200, 1201, 1202, 1203, 1204, 1205, 1206, 1207, 1208, 1209] (by decide +kernel) (by decide +kernel)
set_option maxRecDepth 20000 in
theorem gL_law_X8_season : GoodIn wsL_fl (wsV RL 72 RX8 yX8_season wsX8_season) := goodIn_app (goodIn_r _ [744, 745, 746, 5] (by decide +kernel) (by decide +kernel)) ggL_law_X8_season
set_option maxRecDepth 20000 in
theorem ggL_law_X7_when : GoodIn wsL_fl wsX7_when := goodIn_r _ [759, 16, 130, 760, 80, 81, 33, 82, 70, 292, 293, 294, 295, 296, 297, 298, 299, 52, 227, 228, 229, 230, 83, 2, 84, 1189, 1190, 1191, 1192, 1193, 1194, 1210, 1211, 1212, 1213, 1214, 1215, 1216, 1217, 1218, 1227, 1228, 1229, 1230, 1231, 1232, 1233] (by decide +kernel) (by decide +kernel)
set_option maxRecDepth 20000 in
theorem gL_law_X7_when : GoodIn wsL_fl (wsV RL 73 RX7 yX7_when wsX7_when) := goodIn_app (goodIn_r _ [756, 757, 758, 2] (by decide +kernel) (by decide +kernel)) ggL_law_X7_when
set_option maxRecDepth 20000 in
theorem ggL_law_X8_when : GoodIn wsL_fl wsX8_when := goodIn_r _ [311, 162, 163, 164, 5, 165, 104, 166, 167, 168, 239, 240, 241, 242, 312, 313, 314, 315, 263, 264, 265, 266, 1195, 1196, 1197, 1198, 1199, 1200, 1201, 1202, 1203, 1204, 1205, 1206, 1207, 1208, 1209] (by decide +kernel) (by decide +kernel)
set_option maxRecDepth 20000 in
theorem gL_law_X8_when : GoodIn wsL_fl (wsV RL 76 RX8 yX8_when wsX8_when) := goodIn_app (goodIn_r _ [761, 309, 310, 5] (by decide +kernel) (by decide +kernel)) ggL_law_X8_when
set_option maxRecDepth 20000 in
theorem ggL_law_X7_about : GoodIn wsL_fl wsX7_about := goodIn_r _ [765, 16, 130, 149, 150, 341, 151, 152, 153, 33, 154, 70, 766, 767, 768, 769, 223, 224, 225, 226, 53, 227, 228, 229, 230, 83, 2, 84, 770, 220, 221, 222, 771, 772, 773, 774, 775, 776, 625, 626, 15, 627, 34, 589, 628, 629, 630, 631, 52, 632, 633, 634, 635, 36, 636, 637, 63, 638, 37, 185, 777, 778, 779, 780, 731, 732, 733, 734, 781, 740, 741, 742, 743, 736, 737, 738, 1189, 1190, 1191, 1192, 1193, 1194, 1210, 1211, 1212, 1213, 1214, 1215, 1216, 1217, 1218, 1227, 1228, 1229, 1230, 1231, 1232, 1233] (by decide +kernel) (by decide +kernel)
set_option maxRecDepth 20000 in
theorem gL_law_X7_about : GoodIn wsL_fl (wsV RL 77 RX7 yX7_about wsX7_about) := goodIn_app (goodIn_r _ [762, 763, 764, 2] (by decide +kernel) (by decide +kernel)) ggL_law_X7_about
set_option maxRecDepth 20000 in
theorem ggL_law_X8_about : GoodIn wsL_fl wsX8_about := goodIn_r _ [785, 104, 162, 163, 164, 5, 165, 166, 167, 168, 786, 787, 788, 789, 239, 240, 241, 242, 259, 260, 261, 262, 263, 264, 265, 266, 255, 256, 257, 258, 790, 791, 792, 793, 677, 678, 679, 680, 681, 682, 683, 684, 312, 313, 314, 315, 685, 686, 687, 688, 689, 637, 63, 638, 690, 691, 692, 693, 794, 795, 796, 797, 752, 753, 754, 755, 748, 749, 750, 751, 1195, 1196, 1197, 1198, 1199, 1200, 1201, 1202, 1203, 1204, 1205, 1206, 1207, 1208, 1209] (by decide +kernel) (by decide +kernel)
set_option maxRecDepth 20000 in
theorem gL_law_X8_about : GoodIn wsL_fl (wsV RL 80 RX8 yX8_about wsX8_about) := goodIn_app (goodIn_r _ [782, 783, 784, 5] (by decide +kernel) (by decide +kernel)) ggL_law_X8_about
set_option maxRecDepth 20000 in
theorem ggL_law_X7_carried : GoodIn wsL_fl wsX7_carried := goodIn_r _ [801, 16, 130, 760, 80, 81, 33, 82, 70, 802, 803, 804, 805, 55, 614, 615, 616, 617, 618, 438, 439, 440, 296, 297, 298, 299, 52, 227, 228, 229, 230, 83, 2, 84, 619, 152, 153, 154, 79, 1189, 1190, 1191, 1192, 1193, 1194, 1210, 1211, 1212, 1213, 1214, 1215, 1216, 1217, 1218, 1227, 1228, 1229, 1230, 1231, 1232, 1233] (by decide +kernel) (by decide +kernel)
set_option maxRecDepth 20000 in
theorem gL_law_X7_carried : GoodIn wsL_fl (wsV RL 81 RX7 yX7_carried wsX7_carried) := goodIn_app (goodIn_r _ [798, 799, 800, 2] (by decide +kernel) (by decide +kernel)) ggL_law_X7_carried
set_option maxRecDepth 20000 in
theorem ggL_law_X8_carried : GoodIn wsL_fl wsX8_carried := goodIn_r _ [809, 162, 163, 164, 5, 165, 104, 166, 167, 168, 669, 670, 671, 672, 239, 240, 241, 242, 312, 313, 314, 315, 263, 264, 265, 266, 1195, 1196, 1197, 1198, 1199, 1200, 1201, 1202, 1203, 1204, 1205, 1206, 1207, 1208, 1209] (by decide +kernel) (by decide +kernel)
set_option maxRecDepth 20000 in
theorem gL_law_X8_carried : GoodIn wsL_fl (wsV RL 84 RX8 yX8_carried wsX8_carried) := goodIn_app (goodIn_r _ [806, 807, 808, 5] (by decide +kernel) (by decide +kernel)) ggL_law_X8_carried
set_option maxRecDepth 20000 in
theorem ggL_law_X7_loop : GoodIn wsL_fl wsX7_loop := goodIn_r _ [813, 16, 130, 814, 181, 182, 33, 183, 70, 151, 152, 153, 154, 815, 816, 817, 818, 296, 297, 298, 299, 52, 227, 228, 229, 230, 83, 2, 84, 1189, 1190, 1191, 1192, 1193, 1194, 1210, 1211, 1212, 1213, 1214, 1215, 1216, 1217, 1218, 1227, 1228, 1229, 1230, 1231, 1232, 1233] (by decide +kernel) (by decide +kernel)
set_option maxRecDepth 20000 in
theorem gL_law_X7_loop : GoodIn wsL_fl (wsV RL 85 RX7 yX7_loop wsX7_loop) := goodIn_app (goodIn_r _ [810, 811, 812, 2] (by decide +kernel) (by decide +kernel)) ggL_law_X7_loop
set_option maxRecDepth 20000 in
theorem ggL_law_X8_loop : GoodIn wsL_fl wsX8_loop := goodIn_r _ [822, 235, 236, 237, 5, 238, 239, 240, 241, 242, 104, 166, 167, 168, 162, 163, 164, 165, 312, 313, 314, 315, 263, 264, 265, 266, 1195, 1196, 1197, 1198, 1199, 1200, 1201, 1202, 1203, 1204, 1205, 1206, 1207, 1208, 1209] (by decide +kernel) (by decide +kernel)
set_option maxRecDepth 20000 in
theorem gL_law_X8_loop : GoodIn wsL_fl (wsV RL 88 RX8 yX8_loop wsX8_loop) := goodIn_app (goodIn_r _ [819, 820, 821, 5] (by decide +kernel) (by decide +kernel)) ggL_law_X8_loop
set_option maxRecDepth 20000 in
theorem ggL_law_X7_told : GoodIn wsL_fl wsX7_told := goodIn_r _ [826, 16, 130, 131, 341, 215, 216, 217, 33, 218, 70, 219, 220, 221, 222, 223, 224, 225, 226, 53, 227, 228, 229, 230, 83, 2, 84, 827, 601, 602, 15, 603, 34, 589, 604, 197, 198, 199, 50, 75, 76, 77, 78, 605, 606, 607, 608, 39, 609, 828, 611, 612, 613, 55, 614, 615, 616, 617, 618, 438, 439, 440, 296, 297, 298, 299, 52, 619, 152, 153, 154, 829, 621, 622, 623, 624, 625, 626, 627, 628, 629, 630, 631, 632, 633, 634, 635, 36, 636, 637, 63, 638, 37, 185, 830, 831, 832, 833, 834, 835, 836, 837, 838, 839, 840, 841, 842, 843, 844, 845, 846, 847, 848, 849, 850, 851, 852, 853, 854, 855, 856, 778, 779, 780, 731, 732, 733, 734, 781, 740, 741, 742, 743, 736, 737, 738, 1189, 1190, 1191, 1192, 1193, 1194, 1210, 1211, 1212, 1213, 1214, 1215, 1216, 1217, 1218, 1227, 1228, 1229, 1230, 1231, 1232, 1233] (by decide +kernel) (by decide +kernel)
set_option maxRecDepth 20000 in
theorem gL_law_X7_told : GoodIn wsL_fl (wsV RL 89 RX7 yX7_told wsX7_told) := goodIn_app (goodIn_r _ [823, 824, 825, 2] (by decide +kernel) (by decide +kernel)) ggL_law_X7_told
set_option maxRecDepth 20000 in
theorem ggL_law_X8_told : GoodIn wsL_fl wsX8_told := goodIn_r _ [860, 104, 251, 252, 253, 5, 254, 255, 256, 257, 258, 239, 240, 241, 242, 259, 260, 261, 262, 263, 264, 265, 266, 661, 662, 663, 664, 665, 666, 667, 668, 669, 670, 671, 672, 312, 313, 314, 315, 673, 674, 675, 676, 677, 678, 679, 680, 681, 682, 683, 684, 685, 686, 687, 688, 689, 637, 63, 638, 690, 691, 692, 693, 861, 862, 863, 864, 865, 866, 867, 868, 869, 870, 871, 872, 873, 874, 875, 876, 877, 878, 794, 795, 796, 797, 752, 753, 754, 755, 748, 749, 750, 751, 1195, 1196, 1197, 1198, 1199, 1200, 1201, 1202, 1203, 1204, 1205, 1206, 1207, 1208, 1209] (by decide +kernel) (by decide +kernel)
set_option maxRecDepth 20000 in
theorem gL_law_X8_told : GoodIn wsL_fl (wsV RL 92 RX8 yX8_told wsX8_told) := goodIn_app (goodIn_r _ [857, 858, 859, 5] (by decide +kernel) (by decide +kernel)) ggL_law_X8_told
set_option maxRecDepth 20000 in
theorem ggL_law_X7_rateOf : GoodIn wsL_fl wsX7_rateOf := goodIn_r _ [882, 16, 331, 332, 186, 2, 187, 1189, 1190, 1191, 1192, 1193, 1194, 1210, 1211, 1212, 1213, 1214, 1215, 1216, 1217, 1218] (by decide +kernel) (by decide +kernel)
set_option maxRecDepth 20000 in
theorem gL_law_X7_rateOf : GoodIn wsL_fl (wsV RL 93 RX7 yX7_rateOf wsX7_rateOf) := goodIn_app (goodIn_r _ [879, 880, 881, 2] (by decide +kernel) (by decide +kernel)) ggL_law_X7_rateOf
set_option maxRecDepth 20000 in
theorem ggL_law_X8_rateOf : GoodIn wsL_fl wsX8_rateOf := goodIn_r _ [886, 104, 166, 167, 5, 168, 1195, 1196, 1197, 1198, 1199, 1200, 1201, 1202, 1203, 1204, 1205, 1206, 1207, 1208, 1209] (by decide +kernel) (by decide +kernel)
set_option maxRecDepth 20000 in
theorem gL_law_X8_rateOf : GoodIn wsL_fl (wsV RL 96 RX8 yX8_rateOf wsX8_rateOf) := goodIn_app (goodIn_r _ [883, 884, 885, 5] (by decide +kernel) (by decide +kernel)) ggL_law_X8_rateOf
set_option maxRecDepth 20000 in
theorem ggL_law_X7_wear : GoodIn wsL_fl wsX7_wear := goodIn_r _ [890, 16, 130, 891, 321, 228, 229, 33, 230, 70, 892, 839, 840, 15, 841, 842, 843, 844, 845, 846, 847, 34, 628, 629, 630, 631, 53, 52, 227, 83, 2, 84, 632, 633, 634, 635, 36, 636, 637, 63, 638, 37, 185, 152, 153, 154, 893, 894, 895, 896, 897, 898, 899, 1189, 1190, 1191, 1192, 1193, 1194, 1210, 1211, 1212, 1213, 1214, 1215, 1216, 1217, 1218, 1227, 1228, 1229, 1230, 1231, 1232, 1233] (by decide +kernel) (by decide +kernel)
set_option maxRecDepth 20000 in
theorem gL_law_X7_wear : GoodIn wsL_fl (wsV RL 97 RX7 yX7_wear wsX7_wear) := goodIn_app (goodIn_r _ [887, 888, 889, 2] (by decide +kernel) (by decide +kernel)) ggL_law_X7_wear
set_option maxRecDepth 20000 in
theorem ggL_law_X8_wear : GoodIn wsL_fl wsX8_wear := goodIn_r _ [903, 904, 162, 163, 164, 5, 165, 104, 166, 167, 168, 235, 236, 237, 238, 239, 240, 241, 242, 865, 866, 867, 868, 869, 870, 690, 691, 692, 693, 681, 682, 683, 684, 259, 260, 261, 262, 263, 264, 265, 266, 312, 313, 314, 315, 685, 686, 687, 688, 689, 637, 63, 638, 905, 906, 907, 908, 909, 910, 911, 912, 913, 914, 915, 916, 1195, 1196, 1197, 1198, 1199, 1200, 1201, 1202, 1203, 1204, 1205, 1206, 1207, 1208, 1209] (by decide +kernel) (by decide +kernel)
set_option maxRecDepth 20000 in
theorem gL_law_X8_wear : GoodIn wsL_fl (wsV RL 101 RX8 yX8_wear wsX8_wear) := goodIn_app (goodIn_r _ [900, 901, 902, 5] (by decide +kernel) (by decide +kernel)) ggL_law_X8_wear
set_option maxRecDepth 20000 in
theorem ggL_law_X7_cost : GoodIn wsL_fl wsX7_cost := goodIn_r _ [920, 16, 921, 591, 592, 15, 593, 34, 594, 216, 217, 33, 218, 70, 219, 220, 221, 222, 223, 224, 225, 226, 53, 227, 228, 229, 230, 83, 2, 84, 595, 596, 597, 598, 40, 599, 186, 187, 600, 601, 602, 603, 589, 604, 197, 198, 199, 50, 75, 76, 77, 78, 605, 606, 607, 608, 39, 609, 610, 611, 612, 613, 55, 614, 615, 616, 617, 618, 438, 439, 440, 296, 297, 298, 299, 52, 619, 152, 153, 154, 620, 621, 622, 623, 624, 625, 626, 627, 628, 629, 630, 631, 632, 633, 634, 635, 36, 636, 637, 63, 638, 37, 185, 893, 894, 895, 896, 897, 898, 899, 1189, 1190, 1191, 1192, 1193, 1194, 1210, 1211, 1212, 1213, 1214, 1215, 1216, 1217, 1218, 1227, 1228, 1229, 1230, 1231, 1232, 1233] (by decide +kernel) (by decide +kernel)
set_option maxRecDepth 20000 in
theorem gL_law_X7_cost : GoodIn wsL_fl (wsV RL 102 RX7 yX7_cost wsX7_cost) := goodIn_app (goodIn_r _ [917, 918, 919, 2] (by decide +kernel) (by decide +kernel)) ggL_law_X7_cost
set_option maxRecDepth 20000 in
theorem ggL_law_X8_cost : GoodIn wsL_fl wsX8_cost := goodIn_r _ [925, 652, 653, 654, 5, 655, 251, 252, 253, 254, 104, 255, 256, 257, 258, 239, 240, 241, 242, 259, 260, 261, 262, 263, 264, 265, 266, 656, 657, 658, 659, 660, 661, 662, 663, 664, 665, 666, 667, 668, 669, 670, 671, 672, 312, 313, 314, 315, 673, 674, 675, 676, 677, 678, 679, 680, 681, 682, 683, 684, 685, 686, 687, 688, 689, 637, 63, 638, 690, 691, 692, 693, 905, 906, 907, 908, 909, 910, 911, 912, 913, 914, 915, 916, 1195, 1196, 1197, 1198, 1199, 1200, 1201, 1202, 1203, 1204, 1205, 1206, 1207, 1208, 1209] (by decide +kernel) (by decide +kernel)
set_option maxRecDepth 20000 in
theorem gL_law_X8_cost : GoodIn wsL_fl (wsV RL 106 RX8 yX8_cost wsX8_cost) := goodIn_app (goodIn_r _ [922, 923, 924, 5] (by decide +kernel) (by decide +kernel)) ggL_law_X8_cost
set_option maxRecDepth 20000 in
theorem ggL_law_X7_would : GoodIn wsL_fl wsX7_would := goodIn_r _ [929, 16, 891, 176, 177, 178, 15, 179, 34, 180, 181, 182, 33, 183, 70, 184, 76, 77, 78, 185, 152, 153, 154, 186, 2, 187, 156, 157, 930, 640, 641, 642, 643, 189, 190, 191, 40, 192, 193, 194, 195, 196, 197, 198, 199, 50, 75, 200, 201, 202, 203, 51, 71, 72, 73, 74, 52, 53, 54, 79, 80, 81, 82, 83, 84, 204, 205, 206, 207, 208, 209, 210, 211, 212, 213, 214, 590, 591, 592, 593, 594, 216, 217, 218, 219, 220, 221, 222, 223, 224, 225, 226, 227, 228, 229, 230, 595, 596, 597, 598, 599, 600, 601, 602, 603, 589, 604, 605, 606, 607, 608, 39, 609, 610, 611, 612, 613, 55, 614, 615, 616, 617, 618, 438, 439, 440, 296, 297, 298, 299, 619, 620, 621, 622, 623, 624, 625, 626, 627, 628, 629, 630, 631, 632, 633, 634, 635, 36, 636, 637, 63, 638, 37, 893, 894, 895, 896, 897, 898, 899, 1189, 1190, 1191, 1192, 1193, 1194, 1210, 1211, 1212, 1213, 1214, 1215, 1216, 1217, 1218, 1227, 1228, 1229, 1230, 1231, 1232, 1233] (by decide +kernel) (by decide +kernel)
set_option maxRecDepth 20000 in
theorem gL_law_X7_would : GoodIn wsL_fl (wsV RL 107 RX7 yX7_would wsX7_would) := goodIn_app (goodIn_r _ [926, 927, 928, 2] (by decide +kernel) (by decide +kernel)) ggL_law_X7_would
set_option maxRecDepth 20000 in
theorem ggL_law_X8_would : GoodIn wsL_fl wsX8_would := goodIn_r _ [934, 904, 235, 236, 237, 5, 238, 239, 240, 241, 242, 104, 166, 167, 168, 276, 277, 278, 279, 280, 281, 282, 283, 122, 123, 124, 125, 247, 248, 249, 250, 652, 653, 654, 655, 251, 252, 253, 254, 255, 256, 257, 258, 259, 260, 261, 262, 263, 264, 265, 266, 656, 657, 658, 659, 660, 661, 662, 663, 664, 665, 666, 667, 668, 669, 670, 671, 672, 312, 313, 314, 315, 673, 674, 675, 676, 677, 678, 679, 680, 681, 682, 683, 684, 685, 686, 687, 688, 689, 637, 63, 638, 690, 691, 692, 693, 905, 906, 907, 908, 909, 910, 911, 912, 913, 914, 915, 916, 1195, 1196, 1197, 1198, 1199, 1200, 1201, 1202, 1203, 1204, 1205, 1206, 1207, 1208, 1209] (by decide +kernel) (by decide +kernel)
set_option maxRecDepth 20000 in
theorem gL_law_X8_would : GoodIn wsL_fl (wsV RL 110 RX8 yX8_would wsX8_would) := goodIn_app (goodIn_r _ [931, 932, 933, 5] (by decide +kernel) (by decide +kernel)) ggL_law_X8_would
set_option maxRecDepth 20000 in
theorem ggL_law_X7_spread : GoodIn wsL_fl wsX7_spread := goodIn_r _ [938, 891, 16, 939, 940, 941, 2, 942, 943, 944, 945, 15, 946, 34, 589, 834, 835, 836, 837, 838, 839, 840, 841, 842, 843, 844, 845, 846, 847, 628, 629, 630, 33, 631, 53, 52, 227, 228, 229, 230, 70, 83, 84, 632, 633, 634, 635, 36, 636, 637, 63, 638, 37, 185, 152, 153, 154, 947, 948, 949, 896, 897, 898, 899, 1189, 1190, 1191, 1192, 1193, 1194, 1210, 1211, 1212, 1213, 1214, 1215, 1216, 1217, 1218, 1227, 1228, 1229, 1230, 1231, 1232, 1233] (by decide +kernel) (by decide +kernel)
set_option maxRecDepth 20000 in
theorem gL_law_X7_spread : GoodIn wsL_fl (wsV RL 111 RX7 yX7_spread wsX7_spread) := goodIn_app (goodIn_r _ [935, 936, 937, 2] (by decide +kernel) (by decide +kernel)) ggL_law_X7_spread
set_option maxRecDepth 20000 in
theorem ggL_law_X8_spread : GoodIn wsL_fl wsX8_spread := goodIn_r _ [953, 904, 104, 954, 166, 167, 5, 168, 239, 240, 241, 242, 865, 866, 867, 868, 869, 870, 690, 691, 692, 693, 681, 682, 683, 684, 259, 260, 261, 262, 263, 264, 265, 266, 312, 313, 314, 315, 685, 686, 687, 688, 689, 637, 63, 638, 955, 956, 957, 958, 959, 960, 961, 962, 963, 964, 965, 966, 1195, 1196, 1197, 1198, 1199, 1200, 1201, 1202, 1203, 1204, 1205, 1206, 1207, 1208, 1209] (by decide +kernel) (by decide +kernel)
set_option maxRecDepth 20000 in
theorem gL_law_X8_spread : GoodIn wsL_fl (wsV RL 115 RX8 yX8_spread wsX8_spread) := goodIn_app (goodIn_r _ [950, 951, 952, 5] (by decide +kernel) (by decide +kernel)) ggL_law_X8_spread
set_option maxRecDepth 20000 in
theorem ggL_law_X7_see : GoodIn wsL_fl wsX7_see := goodIn_r _ [970, 16, 971, 130, 362, 972, 137, 138, 43, 139, 140, 151, 152, 153, 33, 154, 70, 973, 454, 455, 456, 65, 974, 450, 451, 452, 60, 453, 1189, 1190, 1191, 1192, 1193, 1194, 1210, 1211, 1212, 1213, 1214, 1215, 1216, 1217, 1218, 1234, 1235, 1236, 1227, 1228, 1229, 1230, 1231, 1232, 1233] (by decide +kernel) (by decide +kernel)
set_option maxRecDepth 20000 in
theorem gL_law_X7_see : GoodIn wsL_fl (wsV RL 116 RX7 yX7_see wsX7_see) := goodIn_app (goodIn_r _ [967, 968, 969, 2] (by decide +kernel) (by decide +kernel)) ggL_law_X7_see
set_option maxRecDepth 20000 in
theorem ggL_law_X8_see : GoodIn wsL_fl wsX8_see := goodIn_r _ [978, 104, 162, 163, 164, 5, 165, 166, 167, 168, 1195, 1196, 1197, 1198, 1199, 1200, 1201, 1202, 1203, 1204, 1205, 1206, 1207, 1208, 1209] (by decide +kernel) (by decide +kernel)
set_option maxRecDepth 20000 in
theorem gL_law_X8_see : GoodIn wsL_fl (wsV RL 120 RX8 yX8_see wsX8_see) := goodIn_app (goodIn_r _ [975, 976, 977, 5] (by decide +kernel) (by decide +kernel)) ggL_law_X8_see
set_option maxRecDepth 20000 in
theorem ggL_law_X7_fits : GoodIn wsL_fl wsX7_fits := goodIn_r _ [982, 16, 983, 984, 985, 15, 986, 44, 987, 34, 988, 465, 466, 43, 467, 140, 60, 989, 728, 729, 33, 730, 731, 732, 733, 734, 70, 990, 740, 741, 742, 743, 736, 737, 738, 223, 224, 225, 226, 53, 227, 228, 229, 230, 83, 2, 84, 1189, 1190, 1191, 1192, 1193, 1194, 1210, 1211, 1212, 1213, 1214, 1215, 1216, 1217, 1218, 1234, 1235, 1236, 1227, 1228, 1229, 1230, 1231, 1232, 1233] (by decide +kernel) (by decide +kernel)
set_option maxRecDepth 20000 in
theorem gL_law_X7_fits : GoodIn wsL_fl (wsV RL 121 RX7 yX7_fits wsX7_fits) := goodIn_app (goodIn_r _ [979, 980, 981, 2] (by decide +kernel) (by decide +kernel)) ggL_law_X7_fits
set_option maxRecDepth 20000 in
theorem ggL_law_X8_fits : GoodIn wsL_fl wsX8_fits := goodIn_r _ [994, 995, 996, 997, 5, 998, 104, 239, 240, 241, 242, 752, 753, 754, 755, 748, 749, 750, 751, 259, 260, 261, 262, 263, 264, 265, 266, 1195, 1196, 1197, 1198, 1199, 1200, 1201, 1202, 1203, 1204, 1205, 1206, 1207, 1208, 1209] (by decide +kernel) (by decide +kernel)
set_option maxRecDepth 20000 in
theorem gL_law_X8_fits : GoodIn wsL_fl (wsV RL 124 RX8 yX8_fits wsX8_fits) := goodIn_app (goodIn_r _ [991, 992, 993, 5] (by decide +kernel) (by decide +kernel)) ggL_law_X8_fits
set_option maxRecDepth 20000 in
theorem ggL_law_X7_odds : GoodIn wsL_fl wsX7_odds := goodIn_r _ [1002, 16, 130, 891, 341, 151, 152, 153, 33, 154, 70, 940, 941, 2, 942, 1003, 732, 733, 734, 777, 778, 779, 780, 731, 781, 740, 741, 742, 743, 736, 737, 738, 223, 224, 225, 226, 53, 227, 228, 229, 230, 83, 84, 1004, 1005, 1006, 1189, 1190, 1191, 1192, 1193, 1194, 1210, 1211, 1212, 1213, 1214, 1215, 1216, 1217, 1218, 1227, 1228, 1229, 1230, 1231, 1232, 1233] (by decide +kernel) (by decide +kernel)
set_option maxRecDepth 20000 in
theorem gL_law_X7_odds : GoodIn wsL_fl (wsV RL 125 RX7 yX7_odds wsX7_odds) := goodIn_app (goodIn_r _ [999, 1000, 1001, 2] (by decide +kernel) (by decide +kernel)) ggL_law_X7_odds
set_option maxRecDepth 20000 in
theorem ggL_law_X8_odds : GoodIn wsL_fl wsX8_odds := goodIn_r _ [1010, 904, 162, 163, 164, 5, 165, 104, 166, 167, 168, 794, 795, 796, 797, 239, 240, 241, 242, 752, 753, 754, 755, 748, 749, 750, 751, 259, 260, 261, 262, 263, 264, 265, 266, 1011, 1012, 1013, 1195, 1196, 1197, 1198, 1199, 1200, 1201, 1202, 1203, 1204, 1205, 1206, 1207, 1208, 1209] (by decide +kernel) (by decide +kernel)
set_option maxRecDepth 20000 in
theorem gL_law_X8_odds : GoodIn wsL_fl (wsV RL 128 RX8 yX8_odds wsX8_odds) := goodIn_app (goodIn_r _ [1007, 1008, 1009, 5] (by decide +kernel) (by decide +kernel)) ggL_law_X8_odds
set_option maxRecDepth 20000 in
theorem ggL_law_X7_mean : GoodIn wsL_fl wsX7_mean := goodIn_r _ [1017, 891, 16, 130, 131, 940, 941, 2, 942, 215, 216, 217, 33, 218, 70, 219, 220, 221, 222, 223, 224, 225, 226, 53, 227, 228, 229, 230, 83, 84, 1004, 1005, 1006, 1189, 1190, 1191, 1192, 1193, 1194, 1210, 1211, 1212, 1213, 1214, 1215, 1216, 1217, 1218, 1227, 1228, 1229, 1230, 1231, 1232, 1233] (by decide +kernel) (by decide +kernel)
set_option maxRecDepth 20000 in
theorem gL_law_X7_mean : GoodIn wsL_fl (wsV RL 129 RX7 yX7_mean wsX7_mean) := goodIn_app (goodIn_r _ [1014, 1015, 1016, 2] (by decide +kernel) (by decide +kernel)) ggL_law_X7_mean
set_option maxRecDepth 20000 in
theorem ggL_law_X8_mean : GoodIn wsL_fl wsX8_mean := goodIn_r _ [1021, 104, 904, 166, 167, 5, 168, 251, 252, 253, 254, 255, 256, 257, 258, 239, 240, 241, 242, 259, 260, 261, 262, 263, 264, 265, 266, 1011, 1012, 1013, 1195, 1196, 1197, 1198, 1199, 1200, 1201, 1202, 1203, 1204, 1205, 1206, 1207, 1208, 1209] (by decide +kernel) (by decide +kernel)
set_option maxRecDepth 20000 in
theorem gL_law_X8_mean : GoodIn wsL_fl (wsV RL 132 RX8 yX8_mean wsX8_mean) := goodIn_app (goodIn_r _ [1018, 1019, 1020, 5] (by decide +kernel) (by decide +kernel)) ggL_law_X8_mean
set_option maxRecDepth 20000 in
theorem ggL_law_X7_event : GoodIn wsL_fl wsX7_event := goodIn_r _ [1025, 16, 1026, 362, 972, 137, 138, 43, 139, 140, 176, 177, 178, 15, 179, 34, 180, 181, 182, 33, 183, 70, 184, 76, 77, 78, 185, 152, 153, 154, 186, 2, 187, 156, 157, 973, 454, 455, 456, 65, 974, 450, 451, 452, 60, 453, 1189, 1190, 1191, 1192, 1193, 1194, 1210, 1211, 1212, 1213, 1214, 1215, 1216, 1217, 1218, 1234, 1235, 1236, 1227, 1228, 1229, 1230, 1231, 1232, 1233] (by decide +kernel) (by decide +kernel)
set_option maxRecDepth 20000 in
theorem gL_law_X7_event : GoodIn wsL_fl (wsV RL 133 RX7 yX7_event wsX7_event) := goodIn_app (goodIn_r _ [1022, 1023, 1024, 2] (by decide +kernel) (by decide +kernel)) ggL_law_X7_event
set_option maxRecDepth 20000 in
theorem ggL_law_X8_event : GoodIn wsL_fl wsX8_event := goodIn_r _ [1030, 104, 166, 167, 5, 168, 1031, 1032, 1033, 1034, 235, 236, 237, 238, 239, 240, 241, 242, 276, 277, 278, 279, 162, 163, 164, 165, 1195, 1196, 1197, 1198, 1199, 1200, 1201, 1202, 1203, 1204, 1205, 1206, 1207, 1208, 1209] (by decide +kernel) (by decide +kernel)
set_option maxRecDepth 20000 in
theorem gL_law_X8_event : GoodIn wsL_fl (wsV RL 136 RX8 yX8_event wsX8_event) := goodIn_app (goodIn_r _ [1027, 1028, 1029, 5] (by decide +kernel) (by decide +kernel)) ggL_law_X8_event
set_option maxRecDepth 20000 in
theorem ggL_law_X7_after : GoodIn wsL_fl wsX7_after := goodIn_r _ [1038, 891, 18, 16, 1026, 362, 130, 1039, 1040, 1041, 15, 1042, 34, 36, 1043, 1044, 1045, 1046, 37, 39, 40, 1047, 44, 45, 46, 1048, 1049, 1050, 33, 1051, 70, 50, 1052, 51, 52, 53, 54, 1053, 1054, 1055, 43, 1056, 140, 65, 61, 62, 63, 64, 60, 1057, 464, 465, 466, 467, 188, 189, 190, 191, 192, 193, 194, 195, 196, 197, 198, 199, 75, 76, 77, 78, 200, 201, 202, 203, 71, 72, 73, 74, 79, 80, 81, 82, 83, 2, 84, 204, 205, 206, 207, 208, 209, 210, 211, 212, 213, 214, 186, 187, 215, 216, 217, 218, 219, 220, 221, 222, 223, 224, 225, 226, 227, 228, 229, 230, 827, 601, 602, 603, 589, 604, 605, 606, 607, 608, 609, 921, 591, 592, 593, 594, 595, 596, 597, 598, 599, 600, 610, 611, 612, 613, 55, 614, 615, 616, 617, 618, 438, 439, 440, 296, 297, 298, 299, 619, 152, 153, 154, 620, 621, 622, 623, 624, 625, 626, 627, 628, 629, 630, 631, 632, 633, 634, 635, 636, 637, 638, 185, 893, 894, 895, 896, 897, 898, 899, 1189, 1190, 1191, 1192, 1193, 1194, 1210, 1211, 1212, 1213, 1214, 1215, 1216, 1217, 1218, 1234, 1235, 1236, 1227, 1228, 1229, 1230, 1231, 1232, 1233] (by decide +kernel) (by decide +kernel)
set_option maxRecDepth 20000 in
theorem gL_law_X7_after : GoodIn wsL_fl (wsV RL 137 RX7 yX7_after wsX7_after) := goodIn_app (goodIn_r _ [1035, 1036, 1037, 2] (by decide +kernel) (by decide +kernel)) ggL_law_X7_after
set_option maxRecDepth 20000 in
theorem ggL_law_X8_after : GoodIn wsL_fl wsX8_after := goodIn_r _ [1061, 904, 104, 106, 166, 167, 5, 168, 1062, 1063, 1064, 1065, 1066, 1067, 1068, 243, 244, 245, 246, 247, 248, 249, 250, 280, 281, 282, 283, 122, 123, 124, 125, 304, 305, 306, 307, 239, 240, 241, 242, 251, 252, 253, 254, 255, 256, 257, 258, 259, 260, 261, 262, 263, 264, 265, 266, 661, 662, 663, 664, 652, 653, 654, 655, 656, 657, 658, 659, 660, 665, 666, 667, 668, 669, 670, 671, 672, 312, 313, 314, 315, 673, 674, 675, 676, 677, 678, 679, 680, 681, 682, 683, 684, 685, 686, 687, 688, 689, 637, 63, 638, 690, 691, 692, 693, 905, 906, 907, 908, 909, 910, 911, 912, 913, 914, 915, 916, 1195, 1196, 1197, 1198, 1199, 1200, 1201, 1202, 1203, 1204, 1205, 1206, 1207, 1208, 1209] (by decide +kernel) (by decide +kernel)
set_option maxRecDepth 20000 in
theorem gL_law_X8_after : GoodIn wsL_fl (wsV RL 140 RX8 yX8_after wsX8_after) := goodIn_app (goodIn_r _ [1058, 1059, 1060, 5] (by decide +kernel) (by decide +kernel)) ggL_law_X8_after
set_option maxRecDepth 20000 in
theorem ggL_law_X7_book : GoodIn wsL_fl wsX7_book := goodIn_r _ [1072, 16, 1073, 130, 362, 972, 137, 138, 43, 139, 140, 151, 152, 153, 33, 154, 70, 973, 454, 455, 456, 65, 974, 450, 451, 452, 60, 453, 1189, 1190, 1191, 1192, 1193, 1194, 1210, 1211, 1212, 1213, 1214, 1215, 1216, 1217, 1218, 1234, 1235, 1236, 1227, 1228, 1229, 1230, 1231, 1232, 1233] (by decide +kernel) (by decide +kernel)
set_option maxRecDepth 20000 in
theorem gL_law_X7_book : GoodIn wsL_fl (wsV RL 141 RX7 yX7_book wsX7_book) := goodIn_app (goodIn_r _ [1069, 1070, 1071, 2] (by decide +kernel) (by decide +kernel)) ggL_law_X7_book
set_option maxRecDepth 20000 in
theorem ggL_law_X8_book : GoodIn wsL_fl wsX8_book := goodIn_r _ [1077, 104, 162, 163, 164, 5, 165, 166, 167, 168, 1195, 1196, 1197, 1198, 1199, 1200, 1201, 1202, 1203, 1204, 1205, 1206, 1207, 1208, 1209] (by decide +kernel) (by decide +kernel)
set_option maxRecDepth 20000 in
theorem gL_law_X8_book : GoodIn wsL_fl (wsV RL 144 RX8 yX8_book wsX8_book) := goodIn_app (goodIn_r _ [1074, 1075, 1076, 5] (by decide +kernel) (by decide +kernel)) ggL_law_X8_book
set_option maxRecDepth 20000 in
theorem ggL_law_X7_looked : GoodIn wsL_fl wsX7_looked := goodIn_r _ [1081, 16, 1073, 362, 130, 464, 465, 466, 43, 467, 140, 60, 770, 220, 221, 33, 222, 70, 223, 224, 225, 226, 53, 227, 228, 229, 230, 83, 2, 84, 1189, 1190, 1191, 1192, 1193, 1194, 1210, 1211, 1212, 1213, 1214, 1215, 1216, 1217, 1218, 1234, 1235, 1236, 1227, 1228, 1229, 1230, 1231, 1232, 1233] (by decide +kernel) (by decide +kernel)
set_option maxRecDepth 20000 in
theorem gL_law_X7_looked : GoodIn wsL_fl (wsV RL 145 RX7 yX7_looked wsX7_looked) := goodIn_app (goodIn_r _ [1078, 1079, 1080, 2] (by decide +kernel) (by decide +kernel)) ggL_law_X7_looked
set_option maxRecDepth 20000 in
theorem ggL_law_X8_looked : GoodIn wsL_fl wsX8_looked := goodIn_r _ [1085, 104, 255, 256, 257, 5, 258, 239, 240, 241, 242, 259, 260, 261, 262, 263, 264, 265, 266, 1195, 1196, 1197, 1198, 1199, 1200, 1201, 1202, 1203, 1204, 1205, 1206, 1207, 1208, 1209] (by decide +kernel) (by decide +kernel)
set_option maxRecDepth 20000 in
theorem gL_law_X8_looked : GoodIn wsL_fl (wsV RL 148 RX8 yX8_looked wsX8_looked) := goodIn_app (goodIn_r _ [1082, 1083, 1084, 5] (by decide +kernel) (by decide +kernel)) ggL_law_X8_looked
set_option maxRecDepth 20000 in
theorem ggL_law_X7_judge : GoodIn wsL_fl wsX7_judge := goodIn_r _ [1089, 16, 130, 1090, 131, 1091, 1092, 1093, 1094, 2, 1095, 24, 151, 152, 153, 33, 154, 70, 1096, 1097, 1098, 26, 1099, 99, 1100, 1101, 1102, 1103, 1104, 892, 839, 840, 15, 841, 842, 843, 844, 845, 846, 847, 34, 628, 629, 630, 631, 53, 52, 227, 228, 229, 230, 83, 84, 632, 633, 634, 635, 36, 636, 637, 63, 638, 37, 185, 893, 894, 895, 896, 897, 898, 899, 1189, 1190, 1191, 1192, 1193, 1194, 1210, 1211, 1212, 1213, 1214, 1215, 1216, 1217, 1218, 1224, 1225, 1226, 1227, 1228, 1229, 1230, 1231, 1232, 1233] (by decide +kernel) (by decide +kernel)
set_option maxRecDepth 20000 in
theorem gL_law_X7_judge : GoodIn wsL_fl (wsV RL 149 RX7 yX7_judge wsX7_judge) := goodIn_app (goodIn_r _ [1086, 1087, 1088, 2] (by decide +kernel) (by decide +kernel)) ggL_law_X7_judge
set_option maxRecDepth 20000 in
theorem ggL_law_X8_judge : GoodIn wsL_fl wsX8_judge := goodIn_r _ [1108, 110, 111, 112, 162, 163, 164, 5, 165, 104, 166, 167, 168, 1109, 1110, 1111, 239, 240, 241, 242, 865, 866, 867, 868, 869, 870, 690, 691, 692, 693, 681, 682, 683, 684, 259, 260, 261, 262, 263, 264, 265, 266, 312, 313, 314, 315, 685, 686, 687, 688, 689, 637, 63, 638, 905, 906, 907, 908, 909, 910, 911, 912, 913, 914, 915, 916, 1195, 1196, 1197, 1198, 1199, 1200, 1201, 1202, 1203, 1204, 1205, 1206, 1207, 1208, 1209] (by decide +kernel) (by decide +kernel)
set_option maxRecDepth 20000 in
theorem gL_law_X8_judge : GoodIn wsL_fl (wsV RL 152 RX8 yX8_judge wsX8_judge) := goodIn_app (goodIn_r _ [1105, 1106, 1107, 5] (by decide +kernel) (by decide +kernel)) ggL_law_X8_judge
set_option maxRecDepth 20000 in
theorem ggL_law_X7_image : GoodIn wsL_fl wsX7_image := goodIn_r _ [1115, 17, 16, 1116, 130, 131, 1039, 1040, 1041, 15, 1042, 34, 36, 1043, 1044, 1045, 1046, 37, 39, 40, 1047, 44, 45, 46, 1048, 1049, 1050, 33, 1051, 70, 50, 1052, 51, 52, 53, 54, 1053, 1054, 1055, 43, 1056, 140, 65, 61, 62, 63, 64, 60, 1057, 1189, 1190, 1191, 1192, 1193, 1194, 1210, 1211, 1212, 1213, 1214, 1215, 1216, 1217, 1218, 1227, 1228, 1229, 1230, 1231, 1232, 1233, 1234, 1235, 1236] (by decide +kernel) (by decide +kernel)
set_option maxRecDepth 20000 in
theorem gL_law_X7_image : GoodIn wsL_fl (wsV RL 153 RX7 yX7_image wsX7_image) := goodIn_app (goodIn_r _ [1112, 1113, 1114, 2] (by decide +kernel) (by decide +kernel)) ggL_law_X7_image
set_option maxRecDepth 20000 in
theorem ggL_law_X8_image : GoodIn wsL_fl wsX8_image := goodIn_r _ [1120, 104, 105, 1121, 1062, 1063, 5, 1064, 1195, 1196, 1197, 1198, 1199, 1200, 1201, 1202, 1203, 1204, 1205, 1206, 1207, 1208, 1209] (by decide +kernel) (by decide +kernel)
set_option maxRecDepth 20000 in
theorem gL_law_X8_image : GoodIn wsL_fl (wsV RL 156 RX8 yX8_image wsX8_image) := goodIn_app (goodIn_r _ [1117, 1118, 1119, 5] (by decide +kernel) (by decide +kernel)) ggL_law_X8_image
set_option maxRecDepth 20000 in
theorem ggL_law_X7_undo : GoodIn wsL_fl wsX7_undo := goodIn_r _ [1125, 1116, 16, 17, 130, 131, 1039, 1040, 1041, 15, 1042, 34, 36, 1043, 1044, 1045, 1046, 37, 39, 40, 1047, 44, 45, 46, 1048, 1049, 1050, 33, 1051, 70, 50, 1052, 51, 52, 53, 54, 1053, 1054, 1055, 43, 1056, 140, 65, 61, 62, 63, 64, 60, 1057, 1189, 1190, 1191, 1192, 1193, 1194, 1210, 1211, 1212, 1213, 1214, 1215, 1216, 1217, 1218, 1227, 1228, 1229, 1230, 1231, 1232, 1233, 1234, 1235, 1236] (by decide +kernel) (by decide +kernel)
set_option maxRecDepth 20000 in
theorem gL_law_X7_undo : GoodIn wsL_fl (wsV RL 157 RX7 yX7_undo wsX7_undo) := goodIn_app (goodIn_r _ [1122, 1123, 1124, 2] (by decide +kernel) (by decide +kernel)) ggL_law_X7_undo
set_option maxRecDepth 20000 in
theorem ggL_law_X8_undo : GoodIn wsL_fl wsX8_undo := goodIn_r _ [1129, 1121, 105, 104, 1062, 1063, 5, 1064, 1195, 1196, 1197, 1198, 1199, 1200, 1201, 1202, 1203, 1204, 1205, 1206, 1207, 1208, 1209] (by decide +kernel) (by decide +kernel)
set_option maxRecDepth 20000 in
theorem gL_law_X8_undo : GoodIn wsL_fl (wsV RL 160 RX8 yX8_undo wsX8_undo) := goodIn_app (goodIn_r _ [1126, 1127, 1128, 5] (by decide +kernel) (by decide +kernel)) ggL_law_X8_undo
set_option maxRecDepth 20000 in
theorem ggL_law_X7_count : GoodIn wsL_fl wsX7_count := goodIn_r _ [1133, 16, 971, 362, 1026, 1073, 22, 350, 1189, 1190, 1191, 1192, 1193, 1194, 1210, 1211, 1212, 1213, 1214, 1215, 1216, 1217, 1218, 1234, 1235, 1236, 1219, 1220, 1221, 1222, 1223] (by decide +kernel) (by decide +kernel)
set_option maxRecDepth 20000 in
theorem gL_law_X7_count : GoodIn wsL_fl (wsV RL 161 RX7 yX7_count wsX7_count) := goodIn_app (goodIn_r _ [1130, 1131, 1132, 2] (by decide +kernel) (by decide +kernel)) ggL_law_X7_count
set_option maxRecDepth 20000 in
theorem ggL_law_X8_count : GoodIn wsL_fl wsX8_count := goodIn_r _ [1137, 356, 104, 166, 167, 5, 168, 1195, 1196, 1197, 1198, 1199, 1200, 1201, 1202, 1203, 1204, 1205, 1206, 1207, 1208, 1209] (by decide +kernel) (by decide +kernel)
set_option maxRecDepth 20000 in
theorem gL_law_X8_count : GoodIn wsL_fl (wsV RL 164 RX8 yX8_count wsX8_count) := goodIn_app (goodIn_r _ [1134, 1135, 1136, 5] (by decide +kernel) (by decide +kernel)) ggL_law_X8_count
set_option maxRecDepth 20000 in
theorem ggL_law_X7_tape : GoodIn wsL_fl wsX7_tape := goodIn_r _ [1141, 1092, 1093, 1094, 2, 1095, 24, 1142, 1143, 1144, 26, 1145, 99, 1104, 98, 1146, 1147, 439, 1148, 1189, 1190, 1191, 1192, 1193, 1194, 1224, 1225, 1226] (by decide +kernel) (by decide +kernel)
set_option maxRecDepth 20000 in
theorem gL_law_X7_tape : GoodIn wsL_fl (wsV RL 165 RX7 yX7_tape wsX7_tape) := goodIn_app (goodIn_r _ [1138, 1139, 1140, 2] (by decide +kernel) (by decide +kernel)) ggL_law_X7_tape
set_option maxRecDepth 20000 in
theorem ggL_law_X8_tape : GoodIn wsL_fl wsX8_tape := goodIn_r _ [1152, 110, 111, 112, 1109, 1110, 5, 1111, 166, 167, 168, 1195, 1196, 1197, 1198, 1199, 1200, 1201, 1202, 1203, 1204, 1205, 1206, 1207, 1208, 1209] (by decide +kernel) (by decide +kernel)
set_option maxRecDepth 20000 in
theorem gL_law_X8_tape : GoodIn wsL_fl (wsV RL 168 RX8 yX8_tape wsX8_tape) := goodIn_app (goodIn_r _ [1149, 1150, 1151, 5] (by decide +kernel) (by decide +kernel)) ggL_law_X8_tape
set_option maxRecDepth 20000 in
theorem ggL_law_X7_item : GoodIn wsL_fl wsX7_item := goodIn_r _ [1156, 1091, 1092, 1093, 1094, 2, 1095, 24, 1096, 1097, 1098, 26, 1099, 99, 1100, 1101, 1102, 1103, 1104, 1157, 1158, 1159, 1160, 1224, 1225, 1226, 1189, 1190, 1191, 1192, 1193, 1194] (by decide +kernel) (by decide +kernel)
set_option maxRecDepth 20000 in
theorem gL_law_X7_item : GoodIn wsL_fl (wsV RL 171 RX7 yX7_item wsX7_item) := goodIn_app (goodIn_r _ [1153, 1154, 1155, 2] (by decide +kernel) (by decide +kernel)) ggL_law_X7_item
set_option maxRecDepth 20000 in
theorem ggL_law_X8_item : GoodIn wsL_fl wsX8_item := goodIn_r _ [1164, 110, 111, 112, 1109, 1110, 5, 1111, 166, 167, 168, 1165, 1166, 1167, 1195, 1196, 1197, 1198, 1199, 1200, 1201, 1202, 1203, 1204, 1205, 1206, 1207, 1208, 1209] (by decide +kernel) (by decide +kernel)
set_option maxRecDepth 20000 in
theorem gL_law_X8_item : GoodIn wsL_fl (wsV RL 175 RX8 yX8_item wsX8_item) := goodIn_app (goodIn_r _ [1161, 1162, 1163, 5] (by decide +kernel) (by decide +kernel)) ggL_law_X8_item
set_option maxRecDepth 20000 in
theorem ggL_law_X7_peek : GoodIn wsL_fl wsX7_peek := goodIn_r _ [1171, 891, 1091, 1092, 1093, 1094, 2, 1095, 24, 1100, 1101, 1102, 26, 1103, 1104, 1224, 1225, 1226, 1189, 1190, 1191, 1192, 1193, 1194] (by decide +kernel) (by decide +kernel)
set_option maxRecDepth 20000 in
theorem gL_law_X7_peek : GoodIn wsL_fl (wsV RL 176 RX7 yX7_peek wsX7_peek) := goodIn_app (goodIn_r _ [1168, 1169, 1170, 2] (by decide +kernel) (by decide +kernel)) ggL_law_X7_peek
set_option maxRecDepth 20000 in
theorem ggL_law_X8_peek_ : GoodIn wsL_fl wsX8_peek_ := goodIn_r _ [1175, 111, 112, 904, 1109, 1110, 5, 1111, 166, 167, 168, 1195, 1196, 1197, 1198, 1199, 1200, 1201, 1202, 1203, 1204, 1205, 1206, 1207, 1208, 1209] (by decide +kernel) (by decide +kernel)
set_option maxRecDepth 20000 in
theorem gL_law_X8_peek_ : GoodIn wsL_fl (wsV RL 179 RX8 yX8_peek_ wsX8_peek_) := goodIn_app (goodIn_r _ [1172, 1173, 1174, 5] (by decide +kernel) (by decide +kernel)) ggL_law_X8_peek_
set_option maxRecDepth 20000 in
theorem ggL_law_X7_shift : GoodIn wsL_fl wsX7_shift := goodIn_r _ [1179, 1090, 1091, 1180, 1044, 1045, 1046, 1092, 1093, 1094, 2, 1095, 24, 1096, 1097, 1098, 26, 1099, 99, 1181, 1182, 1183, 1184, 1104, 1224, 1225, 1226, 1189, 1190, 1191, 1192, 1193, 1194] (by decide +kernel) (by decide +kernel)
set_option maxRecDepth 20000 in
theorem gL_law_X7_shift : GoodIn wsL_fl (wsV RL 180 RX7 yX7_shift wsX7_shift) := goodIn_app (goodIn_r _ [1176, 1177, 1178, 2] (by decide +kernel) (by decide +kernel)) ggL_law_X7_shift
set_option maxRecDepth 20000 in
theorem ggL_law_X8_shift : GoodIn wsL_fl wsX8_shift := goodIn_r _ [1188, 110, 111, 113, 112, 1109, 1110, 5, 1111, 166, 167, 168, 1195, 1196, 1197, 1198, 1199, 1200, 1201, 1202, 1203, 1204, 1205, 1206, 1207, 1208, 1209] (by decide +kernel) (by decide +kernel)
set_option maxRecDepth 20000 in
theorem gL_law_X8_shift : GoodIn wsL_fl (wsV RL 184 RX8 yX8_shift wsX8_shift) := goodIn_app (goodIn_r _ [1185, 1186, 1187, 5] (by decide +kernel) (by decide +kernel)) ggL_law_X8_shift
