set_option maxRecDepth 20000 in
theorem ggL_law_X7_init : GoodIn wsL_fl wsX7_init := goodIn_r _ [9, 10, 11, 12, 13, 14, 15, 16, 17, 18, 19, 20, 21, 22, 23, 24, 25, 26, 27, 28, 29, 30, 31, 32, 33, 34, 35, 36, 37, 38, 39, 40, 41, 42, 43, 44, 45, 46, 47, 48, 49, 50, 51, 52, 53, 54, 55, 56, 57, 58, 59, 60, 61, 62, 63, 64, 65, 66, 67, 68, 69, 70, 71, 72, 73, 74, 75, 76, 77, 78, 79, 80, 81, 82, 83, 84, 85, 86, 87, 2, 88, 89, 90, 91, 92, 93, 94, 95, 96, 97, 98, 99, 100, 101, 102, 103, 1212, 1213, 1214, 1215, 1216, 1217, 1218, 1219, 1220, 1191, 1192, 1193, 1194, 1195, 1196, 1221, 1222, 1223, 1224, 1225, 1226, 1227, 1228, 1229, 1230, 1231, 1232, 1233, 1234, 1235, 1236, 1237, 1238] (by decide +kernel) (by decide +kernel)
set_option maxRecDepth 20000 in
theorem gL_law_X7_init : GoodIn wsL_fl (wsX7_init) := ggL_law_X7_init
set_option maxRecDepth 20000 in
theorem ggL_law_X8_init : GoodIn wsL_fl wsX8_init := goodIn_r _ [106, 107, 11, 12, 35, 108, 109, 110, 111, 112, 113, 114, 115, 101, 116, 117, 118, 119, 120, 5, 121, 122, 123, 124, 125, 126, 127, 128, 129, 1197, 1198, 1199, 1200, 1201, 1202, 1203, 1204, 1205, 1206, 1207, 1208, 1209, 1210, 1211] (by decide +kernel) (by decide +kernel)
set_option maxRecDepth 20000 in
theorem gL_law_X8_init : GoodIn wsL_fl (wsX8_init) := ggL_law_X8_init
set_option maxRecDepth 20000 in
theorem ggL_law_X7_teams : GoodIn wsL_fl wsX7_teams := goodIn_r _ [133, 16, 134, 135, 136, 137, 138, 15, 139, 34, 39, 44, 45, 46, 62, 63, 64, 33, 65, 66, 67, 68, 69, 70, 50, 51, 52, 53, 54, 71, 72, 73, 74, 75, 76, 77, 78, 79, 80, 81, 82, 83, 84, 85, 86, 87, 2, 88, 140, 141, 142, 43, 143, 144, 1191, 1192, 1193, 1194, 1195, 1196, 1212, 1213, 1214, 1215, 1216, 1217, 1218, 1219, 1220, 1229, 1230, 1231, 1232, 1233, 1234, 1235, 1236, 1237, 1238] (by decide +kernel) (by decide +kernel)
set_option maxRecDepth 20000 in
theorem gL_law_X7_teams : GoodIn wsL_fl (wsV RL 13 RX7 yX7_teams wsX7_teams) := goodIn_app (goodIn_r _ [130, 131, 132, 2] (by decide +kernel) (by decide +kernel)) ggL_law_X7_teams
set_option maxRecDepth 20000 in
theorem ggL_law_X8_teams : GoodIn wsL_fl wsX8_teams := goodIn_r _ [148, 108, 118, 119, 120, 5, 121, 122, 123, 124, 125, 126, 127, 128, 129, 1197, 1198, 1199, 1200, 1201, 1202, 1203, 1204, 1205, 1206, 1207, 1208, 1209, 1210, 1211] (by decide +kernel) (by decide +kernel)
set_option maxRecDepth 20000 in
theorem gL_law_X8_teams : GoodIn wsL_fl (wsV RL 17 RX8 yX8_teams wsX8_teams) := goodIn_app (goodIn_r _ [145, 146, 147, 5] (by decide +kernel) (by decide +kernel)) ggL_law_X8_teams
set_option maxRecDepth 20000 in
theorem ggL_law_X7_ground : GoodIn wsL_fl wsX7_ground := goodIn_r _ [152, 16, 134, 153, 154, 155, 84, 85, 33, 86, 66, 156, 157, 2, 158, 1191, 1192, 1193, 1194, 1195, 1196, 1212, 1213, 1214, 1215, 1216, 1217, 1218, 1219, 1220, 1229, 1230, 1231, 1232, 1233, 1234, 1235] (by decide +kernel) (by decide +kernel)
set_option maxRecDepth 20000 in
theorem gL_law_X7_ground : GoodIn wsL_fl (wsV RL 18 RX7 yX7_ground wsX7_ground) := goodIn_app (goodIn_r _ [149, 150, 151, 2] (by decide +kernel) (by decide +kernel)) ggL_law_X7_ground
set_option maxRecDepth 20000 in
theorem ggL_law_X8_ground : GoodIn wsL_fl wsX8_ground := goodIn_r _ [162, 108, 163, 164, 165, 5, 166, 167, 168, 169, 170, 171, 172, 1197, 1198, 1199, 1200, 1201, 1202, 1203, 1204, 1205, 1206, 1207, 1208, 1209, 1210, 1211] (by decide +kernel) (by decide +kernel)
set_option maxRecDepth 20000 in
theorem gL_law_X8_ground : GoodIn wsL_fl (wsV RL 22 RX8 yX8_ground wsX8_ground) := goodIn_app (goodIn_r _ [159, 160, 161, 5] (by decide +kernel) (by decide +kernel)) ggL_law_X8_ground
set_option maxRecDepth 20000 in
theorem ggL_law_X7_swap : GoodIn wsL_fl wsX7_swap := goodIn_r _ [176, 16, 134, 177, 178, 179, 15, 180, 34, 181, 76, 77, 33, 78, 66, 182, 72, 73, 74, 75, 183, 84, 85, 86, 184, 2, 185, 157, 158, 186, 187, 188, 189, 40, 190, 191, 192, 193, 194, 195, 196, 197, 50, 71, 198, 199, 200, 201, 51, 67, 68, 69, 70, 52, 53, 54, 79, 80, 81, 82, 83, 87, 88, 202, 203, 204, 205, 206, 207, 208, 209, 210, 211, 212, 213, 214, 215, 216, 217, 218, 219, 220, 221, 222, 223, 224, 225, 226, 227, 228, 1191, 1192, 1193, 1194, 1195, 1196, 1212, 1213, 1214, 1215, 1216, 1217, 1218, 1219, 1220, 1229, 1230, 1231, 1232, 1233, 1234, 1235] (by decide +kernel) (by decide +kernel)
set_option maxRecDepth 20000 in
theorem gL_law_X7_swap : GoodIn wsL_fl (wsV RL 23 RX7 yX7_swap wsX7_swap) := goodIn_app (goodIn_r _ [173, 174, 175, 2] (by decide +kernel) (by decide +kernel)) ggL_law_X7_swap
set_option maxRecDepth 20000 in
theorem ggL_law_X8_swap : GoodIn wsL_fl wsX8_swap := goodIn_r _ [232, 233, 234, 235, 5, 236, 237, 238, 239, 240, 108, 167, 168, 169, 241, 242, 243, 244, 245, 246, 247, 248, 249, 250, 251, 252, 253, 254, 255, 256, 257, 258, 259, 260, 261, 262, 263, 264, 1197, 1198, 1199, 1200, 1201, 1202, 1203, 1204, 1205, 1206, 1207, 1208, 1209, 1210, 1211] (by decide +kernel) (by decide +kernel)
set_option maxRecDepth 20000 in
theorem gL_law_X8_swap : GoodIn wsL_fl (wsV RL 27 RX8 yX8_swap wsX8_swap) := goodIn_app (goodIn_r _ [229, 230, 231, 5] (by decide +kernel) (by decide +kernel)) ggL_law_X8_swap
set_option maxRecDepth 20000 in
theorem ggL_law_X7_turn : GoodIn wsL_fl wsX7_turn := goodIn_r _ [268, 16, 134, 177, 178, 179, 15, 180, 34, 181, 76, 77, 33, 78, 66, 182, 72, 73, 74, 75, 183, 84, 85, 86, 184, 2, 185, 157, 158, 186, 187, 188, 189, 40, 190, 191, 192, 193, 194, 195, 196, 197, 50, 71, 198, 199, 200, 201, 51, 67, 68, 69, 70, 52, 53, 54, 79, 80, 81, 82, 83, 87, 88, 202, 203, 204, 205, 206, 207, 208, 209, 210, 211, 212, 269, 1191, 1192, 1193, 1194, 1195, 1196, 1212, 1213, 1214, 1215, 1216, 1217, 1218, 1219, 1220, 1229, 1230, 1231, 1232, 1233, 1234, 1235] (by decide +kernel) (by decide +kernel)
set_option maxRecDepth 20000 in
theorem gL_law_X7_turn : GoodIn wsL_fl (wsV RL 28 RX7 yX7_turn wsX7_turn) := goodIn_app (goodIn_r _ [265, 266, 267, 2] (by decide +kernel) (by decide +kernel)) ggL_law_X7_turn
set_option maxRecDepth 20000 in
theorem ggL_law_X8_turn : GoodIn wsL_fl wsX8_turn := goodIn_r _ [273, 233, 234, 235, 5, 236, 237, 238, 239, 240, 108, 167, 168, 169, 274, 275, 276, 277, 278, 279, 280, 281, 126, 127, 128, 129, 245, 246, 247, 248, 282, 283, 284, 285, 1197, 1198, 1199, 1200, 1201, 1202, 1203, 1204, 1205, 1206, 1207, 1208, 1209, 1210, 1211] (by decide +kernel) (by decide +kernel)
set_option maxRecDepth 20000 in
theorem gL_law_X8_turn : GoodIn wsL_fl (wsV RL 31 RX8 yX8_turn wsX8_turn) := goodIn_app (goodIn_r _ [270, 271, 272, 5] (by decide +kernel) (by decide +kernel)) ggL_law_X8_turn
set_option maxRecDepth 20000 in
theorem ggL_law_X7_exchange : GoodIn wsL_fl wsX7_exchange := goodIn_r _ [289, 16, 134, 135, 177, 178, 179, 15, 180, 34, 181, 76, 77, 33, 78, 66, 182, 72, 73, 74, 75, 183, 84, 85, 86, 184, 2, 185, 157, 158, 186, 187, 188, 189, 40, 190, 191, 192, 193, 194, 195, 196, 197, 50, 71, 198, 199, 200, 201, 51, 67, 68, 69, 70, 52, 53, 54, 79, 80, 81, 82, 83, 87, 88, 202, 203, 204, 205, 206, 207, 208, 209, 210, 211, 212, 290, 291, 292, 293, 294, 295, 296, 297, 225, 226, 227, 228, 1191, 1192, 1193, 1194, 1195, 1196, 1212, 1213, 1214, 1215, 1216, 1217, 1218, 1219, 1220, 1229, 1230, 1231, 1232, 1233, 1234, 1235] (by decide +kernel) (by decide +kernel)
set_option maxRecDepth 20000 in
theorem gL_law_X7_exchange : GoodIn wsL_fl (wsV RL 32 RX7 yX7_exchange wsX7_exchange) := goodIn_app (goodIn_r _ [286, 287, 288, 2] (by decide +kernel) (by decide +kernel)) ggL_law_X7_exchange
set_option maxRecDepth 20000 in
theorem ggL_law_X8_exchange : GoodIn wsL_fl wsX8_exchange := goodIn_r _ [301, 108, 163, 164, 165, 5, 166, 167, 168, 169, 302, 303, 304, 305, 237, 238, 239, 240, 306, 307, 308, 309, 310, 311, 312, 313, 261, 262, 263, 264, 1197, 1198, 1199, 1200, 1201, 1202, 1203, 1204, 1205, 1206, 1207, 1208, 1209, 1210, 1211] (by decide +kernel) (by decide +kernel)
set_option maxRecDepth 20000 in
theorem gL_law_X8_exchange : GoodIn wsL_fl (wsV RL 35 RX8 yX8_exchange wsX8_exchange) := goodIn_app (goodIn_r _ [298, 299, 300, 5] (by decide +kernel) (by decide +kernel)) ggL_law_X8_exchange
set_option maxRecDepth 20000 in
theorem ggL_law_X7_bar : GoodIn wsL_fl wsX7_bar := goodIn_r _ [317, 16, 134, 318, 319, 226, 227, 33, 228, 83, 84, 85, 86, 66, 75, 76, 77, 78, 320, 87, 2, 88, 1191, 1192, 1193, 1194, 1195, 1196, 1212, 1213, 1214, 1215, 1216, 1217, 1218, 1219, 1220, 1229, 1230, 1231, 1232, 1233, 1234, 1235] (by decide +kernel) (by decide +kernel)
set_option maxRecDepth 20000 in
theorem gL_law_X7_bar : GoodIn wsL_fl (wsV RL 36 RX7 yX7_bar wsX7_bar) := goodIn_app (goodIn_r _ [314, 315, 316, 2] (by decide +kernel) (by decide +kernel)) ggL_law_X7_bar
set_option maxRecDepth 20000 in
theorem ggL_law_X8_bar : GoodIn wsL_fl wsX8_bar := goodIn_r _ [324, 108, 163, 164, 165, 5, 166, 167, 168, 169, 233, 234, 235, 236, 237, 238, 239, 240, 1197, 1198, 1199, 1200, 1201, 1202, 1203, 1204, 1205, 1206, 1207, 1208, 1209, 1210, 1211] (by decide +kernel) (by decide +kernel)
set_option maxRecDepth 20000 in
theorem gL_law_X8_bar : GoodIn wsL_fl (wsV RL 39 RX8 yX8_bar wsX8_bar) := goodIn_app (goodIn_r _ [321, 322, 323, 5] (by decide +kernel) (by decide +kernel)) ggL_law_X8_bar
set_option maxRecDepth 20000 in
theorem ggL_law_X7_rate : GoodIn wsL_fl wsX7_rate := goodIn_r _ [328, 16, 329, 330, 184, 2, 185, 156, 157, 158, 186, 187, 188, 15, 189, 34, 40, 190, 191, 192, 33, 193, 66, 194, 195, 196, 197, 50, 71, 72, 73, 74, 75, 76, 77, 78, 198, 199, 200, 201, 51, 67, 68, 69, 70, 52, 53, 54, 79, 80, 81, 82, 83, 84, 85, 86, 87, 88, 202, 203, 204, 205, 206, 207, 208, 209, 210, 211, 212, 1191, 1192, 1193, 1194, 1195, 1196, 1212, 1213, 1214, 1215, 1216, 1217, 1218, 1219, 1220, 1229, 1230, 1231, 1232, 1233, 1234, 1235] (by decide +kernel) (by decide +kernel)
set_option maxRecDepth 20000 in
theorem gL_law_X7_rate : GoodIn wsL_fl (wsV RL 40 RX7 yX7_rate wsX7_rate) := goodIn_app (goodIn_r _ [325, 326, 327, 2] (by decide +kernel) (by decide +kernel)) ggL_law_X7_rate
set_option maxRecDepth 20000 in
theorem ggL_law_X8_rate : GoodIn wsL_fl wsX8_rate := goodIn_r _ [334, 108, 167, 168, 5, 169, 170, 171, 172, 1197, 1198, 1199, 1200, 1201, 1202, 1203, 1204, 1205, 1206, 1207, 1208, 1209, 1210, 1211] (by decide +kernel) (by decide +kernel)
set_option maxRecDepth 20000 in
theorem gL_law_X8_rate : GoodIn wsL_fl (wsV RL 43 RX8 yX8_rate wsX8_rate) := goodIn_app (goodIn_r _ [331, 332, 333, 5] (by decide +kernel) (by decide +kernel)) ggL_law_X8_rate
set_option maxRecDepth 20000 in
theorem ggL_law_X7_kind : GoodIn wsL_fl wsX7_kind := goodIn_r _ [338, 16, 339, 1191, 1192, 1193, 1194, 1195, 1196, 1212, 1213, 1214, 1215, 1216, 1217, 1218, 1219, 1220] (by decide +kernel) (by decide +kernel)
set_option maxRecDepth 20000 in
theorem gL_law_X7_kind : GoodIn wsL_fl (wsV RL 44 RX7 yX7_kind wsX7_kind) := goodIn_app (goodIn_r _ [335, 336, 337, 2] (by decide +kernel) (by decide +kernel)) ggL_law_X7_kind
set_option maxRecDepth 20000 in
theorem ggL_law_X8_kind : GoodIn wsL_fl wsX8_kind := goodIn_r _ [343, 108, 167, 168, 5, 169, 1197, 1198, 1199, 1200, 1201, 1202, 1203, 1204, 1205, 1206, 1207, 1208, 1209, 1210, 1211] (by decide +kernel) (by decide +kernel)
set_option maxRecDepth 20000 in
theorem gL_law_X8_kind : GoodIn wsL_fl (wsV RL 47 RX8 yX8_kind wsX8_kind) := goodIn_app (goodIn_r _ [340, 341, 342, 5] (by decide +kernel) (by decide +kernel)) ggL_law_X8_kind
set_option maxRecDepth 20000 in
theorem ggL_law_X7_feed : GoodIn wsL_fl wsX7_feed := goodIn_r _ [347, 22, 348, 349, 1191, 1192, 1193, 1194, 1195, 1196, 1221, 1222, 1223, 1224, 1225] (by decide +kernel) (by decide +kernel)
set_option maxRecDepth 20000 in
theorem gL_law_X7_feed : GoodIn wsL_fl (wsV RL 48 RX7 yX7_feed wsX7_feed) := goodIn_app (goodIn_r _ [344, 345, 346, 2] (by decide +kernel) (by decide +kernel)) ggL_law_X7_feed
set_option maxRecDepth 20000 in
theorem ggL_law_X8_feed : GoodIn wsL_fl wsX8_feed := goodIn_r _ [353, 354, 111, 167, 168, 5, 169, 1197, 1198, 1199, 1200, 1201, 1202, 1203, 1204, 1205, 1206, 1207, 1208, 1209, 1210, 1211] (by decide +kernel) (by decide +kernel)
set_option maxRecDepth 20000 in
theorem gL_law_X8_feed : GoodIn wsL_fl (wsV RL 51 RX8 yX8_feed wsX8_feed) := goodIn_app (goodIn_r _ [350, 351, 352, 5] (by decide +kernel) (by decide +kernel)) ggL_law_X8_feed
set_option maxRecDepth 20000 in
theorem ggL_law_X7_read : GoodIn wsL_fl wsX7_read := goodIn_r _ [358, 22, 348, 359, 360, 361, 362, 363, 21, 364, 95, 365, 366, 367, 141, 142, 43, 143, 144, 368, 369, 370, 371, 372, 96, 373, 374, 375, 376, 377, 378, 379, 380, 381, 93, 382, 383, 384, 385, 386, 387, 388, 389, 390, 391, 392, 393, 394, 395, 396, 397, 398, 399, 400, 401, 402, 403, 404, 405, 406, 407, 408, 409, 410, 411, 412, 413, 414, 415, 416, 417, 418, 419, 420, 421, 422, 423, 424, 425, 426, 427, 428, 429, 430, 431, 432, 433, 434, 435, 436, 437, 438, 439, 440, 441, 442, 443, 444, 445, 446, 447, 448, 449, 450, 61, 451, 452, 453, 454, 60, 455, 456, 457, 458, 2, 459, 460, 461, 462, 463, 464, 465, 466, 467, 468, 469, 470, 471, 472, 473, 131, 132, 133, 16, 134, 135, 136, 137, 138, 15, 139, 34, 39, 44, 45, 46, 62, 63, 64, 33, 65, 66, 67, 68, 69, 70, 50, 51, 52, 53, 54, 71, 72, 73, 74, 75, 76, 77, 78, 79, 80, 81, 82, 83, 84, 85, 86, 87, 88, 140, 474, 174, 175, 176, 177, 178, 179, 180, 181, 182, 183, 184, 185, 157, 158, 186, 187, 188, 189, 40, 190, 191, 192, 193, 194, 195, 196, 197, 198, 199, 200, 201, 202, 203, 204, 205, 206, 207, 208, 209, 210, 211, 212, 213, 214, 215, 216, 217, 218, 219, 220, 221, 222, 223, 224, 225, 226, 227, 228, 475, 266, 267, 268, 269, 476, 287, 288, 289, 290, 291, 292, 293, 294, 295, 296, 297, 477, 315, 316, 317, 318, 319, 320, 478, 326, 327, 328, 329, 330, 156, 479, 336, 337, 338, 339, 480, 150, 151, 152, 153, 154, 155, 1191, 1192, 1193, 1194, 1195, 1196, 1221, 1222, 1223, 1224, 1225, 1236, 1237, 1238, 1212, 1213, 1214, 1215, 1216, 1217, 1218, 1219, 1220, 1229, 1230, 1231, 1232, 1233, 1234, 1235] (by decide +kernel) (by decide +kernel)
set_option maxRecDepth 20000 in
theorem gL_law_X7_read : GoodIn wsL_fl (wsV RL 52 RX7 yX7_read wsX7_read) := goodIn_app (goodIn_r _ [355, 356, 357, 2] (by decide +kernel) (by decide +kernel)) ggL_law_X7_read
set_option maxRecDepth 20000 in
theorem ggL_law_X8_read : GoodIn wsL_fl wsX8_read := goodIn_r _ [484, 485, 486, 487, 354, 488, 489, 490, 5, 491, 112, 113, 492, 493, 494, 495, 111, 496, 497, 498, 499, 167, 168, 169, 500, 501, 502, 389, 503, 391, 402, 403, 404, 405, 396, 397, 504, 387, 388, 390, 392, 393, 394, 395, 505, 506, 408, 507, 508, 509, 510, 511, 512, 513, 514, 515, 516, 517, 518, 519, 520, 521, 522, 420, 523, 524, 525, 526, 527, 528, 529, 530, 531, 532, 425, 426, 427, 533, 534, 535, 413, 536, 537, 416, 538, 539, 540, 541, 429, 430, 431, 432, 433, 434, 542, 543, 544, 545, 546, 547, 548, 549, 550, 551, 552, 553, 554, 555, 556, 557, 399, 400, 401, 406, 407, 409, 410, 411, 412, 414, 415, 417, 418, 419, 421, 422, 423, 424, 428, 558, 559, 560, 561, 562, 563, 564, 565, 566, 567, 568, 569, 570, 571, 572, 573, 574, 146, 147, 148, 108, 118, 119, 120, 121, 122, 123, 124, 125, 126, 127, 128, 129, 575, 230, 231, 232, 233, 234, 235, 236, 237, 238, 239, 240, 241, 242, 243, 244, 245, 246, 247, 248, 249, 250, 251, 252, 253, 254, 255, 256, 257, 258, 259, 260, 261, 262, 263, 264, 576, 271, 272, 273, 274, 275, 276, 277, 278, 279, 280, 281, 282, 283, 284, 285, 577, 299, 300, 301, 163, 164, 165, 166, 302, 303, 304, 305, 306, 307, 308, 309, 310, 311, 312, 313, 578, 322, 323, 324, 579, 332, 333, 334, 170, 171, 172, 580, 341, 342, 343, 581, 160, 161, 162, 1197, 1198, 1199, 1200, 1201, 1202, 1203, 1204, 1205, 1206, 1207, 1208, 1209, 1210, 1211] (by decide +kernel) (by decide +kernel)
set_option maxRecDepth 20000 in
theorem gL_law_X8_read : GoodIn wsL_fl (wsV RL 56 RX8 yX8_read wsX8_read) := goodIn_app (goodIn_r _ [481, 482, 483, 5] (by decide +kernel) (by decide +kernel)) ggL_law_X8_read
set_option maxRecDepth 20000 in
theorem ggL_law_X7_step : GoodIn wsL_fl wsX7_step := goodIn_r _ [585, 16, 586, 587, 588, 15, 589, 34, 590, 591, 592, 593, 594, 595, 214, 215, 33, 216, 66, 217, 218, 219, 220, 221, 222, 223, 224, 53, 225, 226, 227, 228, 83, 84, 85, 86, 75, 76, 77, 78, 87, 2, 88, 596, 597, 598, 599, 40, 600, 184, 185, 601, 602, 603, 604, 605, 195, 196, 197, 50, 71, 72, 73, 74, 606, 607, 608, 609, 39, 610, 611, 612, 613, 614, 55, 615, 616, 617, 618, 619, 436, 437, 438, 294, 295, 296, 297, 52, 620, 621, 622, 623, 624, 625, 626, 627, 628, 629, 630, 631, 632, 633, 634, 635, 636, 637, 36, 638, 639, 510, 640, 37, 183, 641, 642, 643, 644, 645, 646, 647, 648, 649, 187, 188, 189, 190, 191, 192, 193, 194, 198, 199, 200, 201, 51, 67, 68, 69, 70, 54, 79, 80, 81, 82, 202, 203, 204, 205, 206, 207, 208, 209, 210, 211, 212, 1191, 1192, 1193, 1194, 1195, 1196, 1212, 1213, 1214, 1215, 1216, 1217, 1218, 1219, 1220, 1229, 1230, 1231, 1232, 1233, 1234, 1235] (by decide +kernel) (by decide +kernel)
set_option maxRecDepth 20000 in
theorem gL_law_X7_step : GoodIn wsL_fl (wsV RL 57 RX7 yX7_step wsX7_step) := goodIn_app (goodIn_r _ [582, 583, 584, 2] (by decide +kernel) (by decide +kernel)) ggL_law_X7_step
set_option maxRecDepth 20000 in
theorem ggL_law_X8_step : GoodIn wsL_fl wsX8_step := goodIn_r _ [653, 167, 168, 5, 169, 654, 655, 656, 657, 108, 658, 659, 660, 661, 249, 250, 251, 252, 253, 254, 255, 256, 237, 238, 239, 240, 257, 258, 259, 260, 261, 262, 263, 264, 662, 663, 664, 665, 666, 667, 668, 669, 670, 671, 672, 673, 674, 675, 676, 677, 678, 310, 311, 312, 313, 679, 680, 681, 682, 683, 684, 685, 686, 687, 688, 689, 690, 691, 692, 693, 694, 695, 639, 510, 640, 696, 697, 698, 699, 700, 701, 702, 703, 278, 279, 280, 281, 126, 127, 128, 129, 245, 246, 247, 248, 241, 242, 243, 244, 302, 303, 304, 305, 1197, 1198, 1199, 1200, 1201, 1202, 1203, 1204, 1205, 1206, 1207, 1208, 1209, 1210, 1211] (by decide +kernel) (by decide +kernel)
set_option maxRecDepth 20000 in
theorem gL_law_X8_step : GoodIn wsL_fl (wsV RL 60 RX8 yX8_step wsX8_step) := goodIn_app (goodIn_r _ [650, 651, 652, 5] (by decide +kernel) (by decide +kernel)) ggL_law_X8_step
set_option maxRecDepth 20000 in
theorem ggL_law_X7_game : GoodIn wsL_fl wsX7_game := goodIn_r _ [707, 16, 134, 708, 72, 73, 33, 74, 66, 75, 76, 77, 78, 269, 195, 196, 197, 50, 71, 709, 199, 200, 201, 51, 1191, 1192, 1193, 1194, 1195, 1196, 1212, 1213, 1214, 1215, 1216, 1217, 1218, 1219, 1220, 1229, 1230, 1231, 1232, 1233, 1234, 1235] (by decide +kernel) (by decide +kernel)
set_option maxRecDepth 20000 in
theorem gL_law_X7_game : GoodIn wsL_fl (wsV RL 61 RX7 yX7_game wsX7_game) := goodIn_app (goodIn_r _ [704, 705, 706, 2] (by decide +kernel) (by decide +kernel)) ggL_law_X7_game
set_option maxRecDepth 20000 in
theorem ggL_law_X8_game : GoodIn wsL_fl wsX8_game := goodIn_r _ [713, 233, 234, 235, 5, 236, 237, 238, 239, 240, 108, 167, 168, 169, 274, 275, 276, 277, 282, 283, 284, 285, 126, 127, 128, 129, 1197, 1198, 1199, 1200, 1201, 1202, 1203, 1204, 1205, 1206, 1207, 1208, 1209, 1210, 1211] (by decide +kernel) (by decide +kernel)
set_option maxRecDepth 20000 in
theorem gL_law_X8_game : GoodIn wsL_fl (wsV RL 64 RX8 yX8_game wsX8_game) := goodIn_app (goodIn_r _ [710, 711, 712, 5] (by decide +kernel) (by decide +kernel)) ggL_law_X8_game
set_option maxRecDepth 20000 in
theorem ggL_law_X7_of : GoodIn wsL_fl wsX7_of := goodIn_r _ [717, 16, 134, 319, 226, 227, 33, 228, 83, 84, 85, 86, 66, 75, 76, 77, 78, 718, 295, 296, 297, 52, 225, 87, 2, 88, 719, 222, 223, 224, 53, 720, 721, 722, 723, 54, 724, 607, 608, 15, 609, 34, 39, 610, 1191, 1192, 1193, 1194, 1195, 1196, 1212, 1213, 1214, 1215, 1216, 1217, 1218, 1219, 1220, 1229, 1230, 1231, 1232, 1233, 1234, 1235] (by decide +kernel) (by decide +kernel)
set_option maxRecDepth 20000 in
theorem gL_law_X7_of : GoodIn wsL_fl (wsV RL 65 RX7 yX7_of wsX7_of) := goodIn_app (goodIn_r _ [714, 715, 716, 2] (by decide +kernel) (by decide +kernel)) ggL_law_X7_of
set_option maxRecDepth 20000 in
theorem ggL_law_X8_of : GoodIn wsL_fl wsX8_of := goodIn_r _ [728, 108, 163, 164, 165, 5, 166, 167, 168, 169, 233, 234, 235, 236, 237, 238, 239, 240, 310, 311, 312, 313, 261, 262, 263, 264, 257, 258, 259, 260, 1197, 1198, 1199, 1200, 1201, 1202, 1203, 1204, 1205, 1206, 1207, 1208, 1209, 1210, 1211] (by decide +kernel) (by decide +kernel)
set_option maxRecDepth 20000 in
theorem gL_law_X8_of : GoodIn wsL_fl (wsV RL 68 RX8 yX8_of wsX8_of) := goodIn_app (goodIn_r _ [725, 726, 727, 5] (by decide +kernel) (by decide +kernel)) ggL_law_X8_of
set_option maxRecDepth 20000 in
theorem ggL_law_X7_season : GoodIn wsL_fl wsX7_season := goodIn_r _ [732, 16, 134, 339, 155, 84, 85, 33, 86, 66, 733, 734, 735, 736, 737, 738, 739, 740, 741, 742, 743, 744, 718, 295, 296, 297, 52, 225, 226, 227, 228, 83, 75, 76, 77, 78, 87, 2, 88, 745, 746, 747, 748, 749, 221, 222, 223, 224, 53, 1191, 1192, 1193, 1194, 1195, 1196, 1212, 1213, 1214, 1215, 1216, 1217, 1218, 1219, 1220, 1229, 1230, 1231, 1232, 1233, 1234, 1235] (by decide +kernel) (by decide +kernel)
set_option maxRecDepth 20000 in
theorem gL_law_X7_season : GoodIn wsL_fl (wsV RL 69 RX7 yX7_season wsX7_season) := goodIn_app (goodIn_r _ [729, 730, 731, 2] (by decide +kernel) (by decide +kernel)) ggL_law_X7_season
set_option maxRecDepth 20000 in
theorem ggL_law_X8_season : GoodIn wsL_fl wsX8_season := goodIn_r _ [753, 108, 163, 164, 165, 5, 166, 167, 168, 169, 237, 238, 239, 240, 754, 755, 756, 757, 310, 311, 312, 313, 261, 262, 263, 264, 758, 759, 760, 761, 257, 258, 259, 260, 1197, 1198, 1199, 1200, 1201, 1202, 1203, 1204, 1205, 1206, 1207, 1208, 1209, 1210, 1211] (by decide +kernel) (by decide +kernel)
set_option maxRecDepth 20000 in
theorem gL_law_X8_season : GoodIn wsL_fl (wsV RL 72 RX8 yX8_season wsX8_season) := goodIn_app (goodIn_r _ [750, 751, 752, 5] (by decide +kernel) (by decide +kernel)) ggL_law_X8_season
set_option maxRecDepth 20000 in
theorem ggL_law_X7_when : GoodIn wsL_fl wsX7_when := goodIn_r _ [765, 16, 134, 766, 80, 81, 33, 82, 83, 84, 85, 86, 66, 290, 291, 292, 293, 294, 295, 296, 297, 52, 225, 226, 227, 228, 75, 76, 77, 78, 87, 2, 88, 1191, 1192, 1193, 1194, 1195, 1196, 1212, 1213, 1214, 1215, 1216, 1217, 1218, 1219, 1220, 1229, 1230, 1231, 1232, 1233, 1234, 1235] (by decide +kernel) (by decide +kernel)
set_option maxRecDepth 20000 in
theorem gL_law_X7_when : GoodIn wsL_fl (wsV RL 73 RX7 yX7_when wsX7_when) := goodIn_app (goodIn_r _ [762, 763, 764, 2] (by decide +kernel) (by decide +kernel)) ggL_law_X7_when
set_option maxRecDepth 20000 in
theorem ggL_law_X8_when : GoodIn wsL_fl wsX8_when := goodIn_r _ [309, 163, 164, 165, 5, 166, 108, 167, 168, 169, 237, 238, 239, 240, 310, 311, 312, 313, 261, 262, 263, 264, 1197, 1198, 1199, 1200, 1201, 1202, 1203, 1204, 1205, 1206, 1207, 1208, 1209, 1210, 1211] (by decide +kernel) (by decide +kernel)
set_option maxRecDepth 20000 in
theorem gL_law_X8_when : GoodIn wsL_fl (wsV RL 76 RX8 yX8_when wsX8_when) := goodIn_app (goodIn_r _ [767, 307, 308, 5] (by decide +kernel) (by decide +kernel)) ggL_law_X8_when
set_option maxRecDepth 20000 in
theorem ggL_law_X7_about : GoodIn wsL_fl wsX7_about := goodIn_r _ [771, 16, 134, 153, 154, 339, 155, 84, 85, 33, 86, 66, 772, 773, 774, 775, 221, 222, 223, 224, 53, 225, 226, 227, 228, 83, 75, 76, 77, 78, 87, 2, 88, 776, 218, 219, 220, 777, 778, 779, 780, 781, 782, 625, 626, 15, 627, 34, 590, 628, 629, 630, 631, 632, 633, 295, 296, 297, 52, 634, 635, 636, 637, 36, 638, 639, 510, 640, 37, 183, 641, 642, 643, 644, 783, 784, 785, 786, 737, 738, 739, 740, 787, 746, 747, 748, 749, 742, 743, 744, 1191, 1192, 1193, 1194, 1195, 1196, 1212, 1213, 1214, 1215, 1216, 1217, 1218, 1219, 1220, 1229, 1230, 1231, 1232, 1233, 1234, 1235] (by decide +kernel) (by decide +kernel)
set_option maxRecDepth 20000 in
theorem gL_law_X7_about : GoodIn wsL_fl (wsV RL 77 RX7 yX7_about wsX7_about) := goodIn_app (goodIn_r _ [768, 769, 770, 2] (by decide +kernel) (by decide +kernel)) ggL_law_X7_about
set_option maxRecDepth 20000 in
theorem ggL_law_X8_about : GoodIn wsL_fl wsX8_about := goodIn_r _ [791, 108, 163, 164, 165, 5, 166, 167, 168, 169, 792, 793, 794, 795, 237, 238, 239, 240, 257, 258, 259, 260, 261, 262, 263, 264, 253, 254, 255, 256, 796, 797, 798, 799, 683, 684, 685, 686, 687, 688, 689, 690, 310, 311, 312, 313, 691, 692, 693, 694, 695, 639, 510, 640, 696, 697, 698, 699, 800, 801, 802, 803, 758, 759, 760, 761, 754, 755, 756, 757, 1197, 1198, 1199, 1200, 1201, 1202, 1203, 1204, 1205, 1206, 1207, 1208, 1209, 1210, 1211] (by decide +kernel) (by decide +kernel)
set_option maxRecDepth 20000 in
theorem gL_law_X8_about : GoodIn wsL_fl (wsV RL 80 RX8 yX8_about wsX8_about) := goodIn_app (goodIn_r _ [788, 789, 790, 5] (by decide +kernel) (by decide +kernel)) ggL_law_X8_about
set_option maxRecDepth 20000 in
theorem ggL_law_X7_carried : GoodIn wsL_fl wsX7_carried := goodIn_r _ [807, 16, 134, 766, 80, 81, 33, 82, 83, 84, 85, 86, 66, 808, 809, 810, 811, 55, 615, 616, 617, 618, 619, 436, 437, 438, 294, 295, 296, 297, 52, 225, 226, 227, 228, 75, 76, 77, 78, 87, 2, 88, 79, 1191, 1192, 1193, 1194, 1195, 1196, 1212, 1213, 1214, 1215, 1216, 1217, 1218, 1219, 1220, 1229, 1230, 1231, 1232, 1233, 1234, 1235] (by decide +kernel) (by decide +kernel)
set_option maxRecDepth 20000 in
theorem gL_law_X7_carried : GoodIn wsL_fl (wsV RL 81 RX7 yX7_carried wsX7_carried) := goodIn_app (goodIn_r _ [804, 805, 806, 2] (by decide +kernel) (by decide +kernel)) ggL_law_X7_carried
set_option maxRecDepth 20000 in
theorem ggL_law_X8_carried : GoodIn wsL_fl wsX8_carried := goodIn_r _ [815, 163, 164, 165, 5, 166, 108, 167, 168, 169, 675, 676, 677, 678, 237, 238, 239, 240, 310, 311, 312, 313, 261, 262, 263, 264, 1197, 1198, 1199, 1200, 1201, 1202, 1203, 1204, 1205, 1206, 1207, 1208, 1209, 1210, 1211] (by decide +kernel) (by decide +kernel)
set_option maxRecDepth 20000 in
theorem gL_law_X8_carried : GoodIn wsL_fl (wsV RL 84 RX8 yX8_carried wsX8_carried) := goodIn_app (goodIn_r _ [812, 813, 814, 5] (by decide +kernel) (by decide +kernel)) ggL_law_X8_carried
set_option maxRecDepth 20000 in
theorem ggL_law_X7_loop : GoodIn wsL_fl wsX7_loop := goodIn_r _ [819, 16, 134, 820, 76, 77, 33, 78, 66, 155, 84, 85, 86, 821, 822, 823, 824, 294, 295, 296, 297, 52, 225, 226, 227, 228, 83, 75, 87, 2, 88, 1191, 1192, 1193, 1194, 1195, 1196, 1212, 1213, 1214, 1215, 1216, 1217, 1218, 1219, 1220, 1229, 1230, 1231, 1232, 1233, 1234, 1235] (by decide +kernel) (by decide +kernel)
set_option maxRecDepth 20000 in
theorem gL_law_X7_loop : GoodIn wsL_fl (wsV RL 85 RX7 yX7_loop wsX7_loop) := goodIn_app (goodIn_r _ [816, 817, 818, 2] (by decide +kernel) (by decide +kernel)) ggL_law_X7_loop
set_option maxRecDepth 20000 in
theorem ggL_law_X8_loop : GoodIn wsL_fl wsX8_loop := goodIn_r _ [828, 233, 234, 235, 5, 236, 237, 238, 239, 240, 108, 167, 168, 169, 163, 164, 165, 166, 310, 311, 312, 313, 261, 262, 263, 264, 1197, 1198, 1199, 1200, 1201, 1202, 1203, 1204, 1205, 1206, 1207, 1208, 1209, 1210, 1211] (by decide +kernel) (by decide +kernel)
set_option maxRecDepth 20000 in
theorem gL_law_X8_loop : GoodIn wsL_fl (wsV RL 88 RX8 yX8_loop wsX8_loop) := goodIn_app (goodIn_r _ [825, 826, 827, 5] (by decide +kernel) (by decide +kernel)) ggL_law_X8_loop
set_option maxRecDepth 20000 in
theorem ggL_law_X7_told : GoodIn wsL_fl wsX7_told := goodIn_r _ [832, 16, 134, 135, 339, 213, 214, 215, 33, 216, 66, 217, 218, 219, 220, 221, 222, 223, 224, 53, 225, 226, 227, 228, 83, 84, 85, 86, 75, 76, 77, 78, 87, 2, 88, 833, 602, 603, 15, 604, 34, 590, 605, 195, 196, 197, 50, 71, 72, 73, 74, 606, 607, 608, 609, 39, 610, 834, 612, 613, 614, 55, 615, 616, 617, 618, 619, 436, 437, 438, 294, 295, 296, 297, 52, 835, 621, 622, 623, 624, 625, 626, 627, 628, 629, 630, 631, 632, 633, 634, 635, 636, 637, 36, 638, 639, 510, 640, 37, 183, 641, 642, 643, 644, 836, 837, 838, 839, 840, 841, 842, 843, 844, 845, 846, 847, 848, 849, 850, 851, 852, 853, 854, 855, 856, 857, 858, 784, 785, 786, 737, 738, 739, 740, 787, 746, 747, 748, 749, 742, 743, 744, 1191, 1192, 1193, 1194, 1195, 1196, 1212, 1213, 1214, 1215, 1216, 1217, 1218, 1219, 1220, 1229, 1230, 1231, 1232, 1233, 1234, 1235] (by decide +kernel) (by decide +kernel)
set_option maxRecDepth 20000 in
theorem gL_law_X7_told : GoodIn wsL_fl (wsV RL 89 RX7 yX7_told wsX7_told) := goodIn_app (goodIn_r _ [829, 830, 831, 2] (by decide +kernel) (by decide +kernel)) ggL_law_X7_told
set_option maxRecDepth 20000 in
theorem ggL_law_X8_told : GoodIn wsL_fl wsX8_told := goodIn_r _ [862, 108, 249, 250, 251, 5, 252, 253, 254, 255, 256, 237, 238, 239, 240, 257, 258, 259, 260, 261, 262, 263, 264, 667, 668, 669, 670, 671, 672, 673, 674, 675, 676, 677, 678, 310, 311, 312, 313, 679, 680, 681, 682, 683, 684, 685, 686, 687, 688, 689, 690, 691, 692, 693, 694, 695, 639, 510, 640, 696, 697, 698, 699, 863, 864, 865, 866, 867, 868, 869, 870, 871, 872, 873, 874, 875, 876, 877, 878, 879, 880, 800, 801, 802, 803, 758, 759, 760, 761, 754, 755, 756, 757, 1197, 1198, 1199, 1200, 1201, 1202, 1203, 1204, 1205, 1206, 1207, 1208, 1209, 1210, 1211] (by decide +kernel) (by decide +kernel)
set_option maxRecDepth 20000 in
theorem gL_law_X8_told : GoodIn wsL_fl (wsV RL 92 RX8 yX8_told wsX8_told) := goodIn_app (goodIn_r _ [859, 860, 861, 5] (by decide +kernel) (by decide +kernel)) ggL_law_X8_told
set_option maxRecDepth 20000 in
theorem ggL_law_X7_rateOf : GoodIn wsL_fl wsX7_rateOf := goodIn_r _ [884, 16, 329, 330, 184, 2, 185, 1191, 1192, 1193, 1194, 1195, 1196, 1212, 1213, 1214, 1215, 1216, 1217, 1218, 1219, 1220] (by decide +kernel) (by decide +kernel)
set_option maxRecDepth 20000 in
theorem gL_law_X7_rateOf : GoodIn wsL_fl (wsV RL 93 RX7 yX7_rateOf wsX7_rateOf) := goodIn_app (goodIn_r _ [881, 882, 883, 2] (by decide +kernel) (by decide +kernel)) ggL_law_X7_rateOf
set_option maxRecDepth 20000 in
theorem ggL_law_X8_rateOf : GoodIn wsL_fl wsX8_rateOf := goodIn_r _ [888, 108, 167, 168, 5, 169, 1197, 1198, 1199, 1200, 1201, 1202, 1203, 1204, 1205, 1206, 1207, 1208, 1209, 1210, 1211] (by decide +kernel) (by decide +kernel)
set_option maxRecDepth 20000 in
theorem gL_law_X8_rateOf : GoodIn wsL_fl (wsV RL 96 RX8 yX8_rateOf wsX8_rateOf) := goodIn_app (goodIn_r _ [885, 886, 887, 5] (by decide +kernel) (by decide +kernel)) ggL_law_X8_rateOf
set_option maxRecDepth 20000 in
theorem ggL_law_X7_wear : GoodIn wsL_fl wsX7_wear := goodIn_r _ [892, 16, 134, 893, 319, 226, 227, 33, 228, 83, 84, 85, 86, 66, 75, 76, 77, 78, 894, 845, 846, 15, 847, 848, 849, 641, 642, 643, 644, 628, 629, 630, 631, 34, 632, 222, 223, 224, 53, 225, 87, 2, 88, 633, 295, 296, 297, 52, 634, 635, 636, 637, 36, 638, 639, 510, 640, 37, 183, 895, 896, 897, 898, 899, 900, 901, 1191, 1192, 1193, 1194, 1195, 1196, 1212, 1213, 1214, 1215, 1216, 1217, 1218, 1219, 1220, 1229, 1230, 1231, 1232, 1233, 1234, 1235] (by decide +kernel) (by decide +kernel)
set_option maxRecDepth 20000 in
theorem gL_law_X7_wear : GoodIn wsL_fl (wsV RL 97 RX7 yX7_wear wsX7_wear) := goodIn_app (goodIn_r _ [889, 890, 891, 2] (by decide +kernel) (by decide +kernel)) ggL_law_X7_wear
set_option maxRecDepth 20000 in
theorem ggL_law_X8_wear : GoodIn wsL_fl wsX8_wear := goodIn_r _ [905, 906, 163, 164, 165, 5, 166, 108, 167, 168, 169, 233, 234, 235, 236, 237, 238, 239, 240, 867, 868, 869, 870, 871, 872, 696, 697, 698, 699, 687, 688, 689, 690, 257, 258, 259, 260, 261, 262, 263, 264, 310, 311, 312, 313, 691, 692, 693, 694, 695, 639, 510, 640, 907, 908, 909, 910, 911, 912, 913, 914, 915, 916, 917, 918, 1197, 1198, 1199, 1200, 1201, 1202, 1203, 1204, 1205, 1206, 1207, 1208, 1209, 1210, 1211] (by decide +kernel) (by decide +kernel)
set_option maxRecDepth 20000 in
theorem gL_law_X8_wear : GoodIn wsL_fl (wsV RL 101 RX8 yX8_wear wsX8_wear) := goodIn_app (goodIn_r _ [902, 903, 904, 5] (by decide +kernel) (by decide +kernel)) ggL_law_X8_wear
set_option maxRecDepth 20000 in
theorem ggL_law_X7_cost : GoodIn wsL_fl wsX7_cost := goodIn_r _ [922, 16, 923, 592, 593, 15, 594, 34, 595, 214, 215, 33, 216, 66, 217, 218, 219, 220, 221, 222, 223, 224, 53, 225, 226, 227, 228, 83, 84, 85, 86, 75, 76, 77, 78, 87, 2, 88, 596, 597, 598, 599, 40, 600, 184, 185, 601, 602, 603, 604, 590, 605, 195, 196, 197, 50, 71, 72, 73, 74, 606, 607, 608, 609, 39, 610, 611, 612, 613, 614, 55, 615, 616, 617, 618, 619, 436, 437, 438, 294, 295, 296, 297, 52, 620, 621, 622, 623, 624, 625, 626, 627, 628, 629, 630, 631, 632, 633, 634, 635, 636, 637, 36, 638, 639, 510, 640, 37, 183, 641, 642, 643, 644, 895, 896, 897, 898, 899, 900, 901, 1191, 1192, 1193, 1194, 1195, 1196, 1212, 1213, 1214, 1215, 1216, 1217, 1218, 1219, 1220, 1229, 1230, 1231, 1232, 1233, 1234, 1235] (by decide +kernel) (by decide +kernel)
set_option maxRecDepth 20000 in
theorem gL_law_X7_cost : GoodIn wsL_fl (wsV RL 102 RX7 yX7_cost wsX7_cost) := goodIn_app (goodIn_r _ [919, 920, 921, 2] (by decide +kernel) (by decide +kernel)) ggL_law_X7_cost
set_option maxRecDepth 20000 in
theorem ggL_law_X8_cost : GoodIn wsL_fl wsX8_cost := goodIn_r _ [927, 658, 659, 660, 5, 661, 249, 250, 251, 252, 108, 253, 254, 255, 256, 237, 238, 239, 240, 257, 258, 259, 260, 261, 262, 263, 264, 662, 663, 664, 665, 666, 667, 668, 669, 670, 671, 672, 673, 674, 675, 676, 677, 678, 310, 311, 312, 313, 679, 680, 681, 682, 683, 684, 685, 686, 687, 688, 689, 690, 691, 692, 693, 694, 695, 639, 510, 640, 696, 697, 698, 699, 907, 908, 909, 910, 911, 912, 913, 914, 915, 916, 917, 918, 1197, 1198, 1199, 1200, 1201, 1202, 1203, 1204, 1205, 1206, 1207, 1208, 1209, 1210, 1211] (by decide +kernel) (by decide +kernel)
set_option maxRecDepth 20000 in
theorem gL_law_X8_cost : GoodIn wsL_fl (wsV RL 106 RX8 yX8_cost wsX8_cost) := goodIn_app (goodIn_r _ [924, 925, 926, 5] (by decide +kernel) (by decide +kernel)) ggL_law_X8_cost
set_option maxRecDepth 20000 in
theorem ggL_law_X7_would : GoodIn wsL_fl wsX7_would := goodIn_r _ [931, 16, 893, 177, 178, 179, 15, 180, 34, 181, 76, 77, 33, 78, 66, 182, 72, 73, 74, 75, 183, 84, 85, 86, 184, 2, 185, 157, 158, 932, 646, 647, 648, 649, 187, 188, 189, 40, 190, 191, 192, 193, 194, 195, 196, 197, 50, 71, 198, 199, 200, 201, 51, 67, 68, 69, 70, 52, 53, 54, 79, 80, 81, 82, 83, 87, 88, 202, 203, 204, 205, 206, 207, 208, 209, 210, 211, 212, 591, 592, 593, 594, 595, 214, 215, 216, 217, 218, 219, 220, 221, 222, 223, 224, 225, 226, 227, 228, 596, 597, 598, 599, 600, 601, 602, 603, 604, 590, 605, 606, 607, 608, 609, 39, 610, 611, 612, 613, 614, 55, 615, 616, 617, 618, 619, 436, 437, 438, 294, 295, 296, 297, 620, 621, 622, 623, 624, 625, 626, 627, 628, 629, 630, 631, 632, 633, 634, 635, 636, 637, 36, 638, 639, 510, 640, 37, 641, 642, 643, 644, 895, 896, 897, 898, 899, 900, 901, 1191, 1192, 1193, 1194, 1195, 1196, 1212, 1213, 1214, 1215, 1216, 1217, 1218, 1219, 1220, 1229, 1230, 1231, 1232, 1233, 1234, 1235] (by decide +kernel) (by decide +kernel)
set_option maxRecDepth 20000 in
theorem gL_law_X7_would : GoodIn wsL_fl (wsV RL 107 RX7 yX7_would wsX7_would) := goodIn_app (goodIn_r _ [928, 929, 930, 2] (by decide +kernel) (by decide +kernel)) ggL_law_X7_would
set_option maxRecDepth 20000 in
theorem ggL_law_X8_would : GoodIn wsL_fl wsX8_would := goodIn_r _ [936, 906, 233, 234, 235, 5, 236, 237, 238, 239, 240, 108, 167, 168, 169, 274, 275, 276, 277, 278, 279, 280, 281, 126, 127, 128, 129, 245, 246, 247, 248, 658, 659, 660, 661, 249, 250, 251, 252, 253, 254, 255, 256, 257, 258, 259, 260, 261, 262, 263, 264, 662, 663, 664, 665, 666, 667, 668, 669, 670, 671, 672, 673, 674, 675, 676, 677, 678, 310, 311, 312, 313, 679, 680, 681, 682, 683, 684, 685, 686, 687, 688, 689, 690, 691, 692, 693, 694, 695, 639, 510, 640, 696, 697, 698, 699, 907, 908, 909, 910, 911, 912, 913, 914, 915, 916, 917, 918, 1197, 1198, 1199, 1200, 1201, 1202, 1203, 1204, 1205, 1206, 1207, 1208, 1209, 1210, 1211] (by decide +kernel) (by decide +kernel)
set_option maxRecDepth 20000 in
theorem gL_law_X8_would : GoodIn wsL_fl (wsV RL 110 RX8 yX8_would wsX8_would) := goodIn_app (goodIn_r _ [933, 934, 935, 5] (by decide +kernel) (by decide +kernel)) ggL_law_X8_would
set_option maxRecDepth 20000 in
theorem ggL_law_X7_spread : GoodIn wsL_fl wsX7_spread := goodIn_r _ [940, 893, 16, 941, 942, 943, 2, 944, 945, 946, 947, 15, 948, 34, 590, 840, 841, 842, 843, 844, 845, 846, 847, 848, 849, 641, 642, 643, 644, 628, 629, 630, 631, 632, 222, 223, 33, 224, 53, 225, 226, 227, 228, 83, 84, 85, 86, 66, 75, 76, 77, 78, 87, 88, 633, 295, 296, 297, 52, 634, 635, 636, 637, 36, 638, 639, 510, 640, 37, 183, 949, 950, 951, 898, 899, 900, 901, 1191, 1192, 1193, 1194, 1195, 1196, 1212, 1213, 1214, 1215, 1216, 1217, 1218, 1219, 1220, 1229, 1230, 1231, 1232, 1233, 1234, 1235] (by decide +kernel) (by decide +kernel)
set_option maxRecDepth 20000 in
theorem gL_law_X7_spread : GoodIn wsL_fl (wsV RL 111 RX7 yX7_spread wsX7_spread) := goodIn_app (goodIn_r _ [937, 938, 939, 2] (by decide +kernel) (by decide +kernel)) ggL_law_X7_spread
set_option maxRecDepth 20000 in
theorem ggL_law_X8_spread : GoodIn wsL_fl wsX8_spread := goodIn_r _ [955, 906, 108, 956, 167, 168, 5, 169, 237, 238, 239, 240, 867, 868, 869, 870, 871, 872, 696, 697, 698, 699, 687, 688, 689, 690, 257, 258, 259, 260, 261, 262, 263, 264, 310, 311, 312, 313, 691, 692, 693, 694, 695, 639, 510, 640, 957, 958, 959, 960, 961, 962, 963, 964, 965, 966, 967, 968, 1197, 1198, 1199, 1200, 1201, 1202, 1203, 1204, 1205, 1206, 1207, 1208, 1209, 1210, 1211] (by decide +kernel) (by decide +kernel)
set_option maxRecDepth 20000 in
theorem gL_law_X8_spread : GoodIn wsL_fl (wsV RL 115 RX8 yX8_spread wsX8_spread) := goodIn_app (goodIn_r _ [952, 953, 954, 5] (by decide +kernel) (by decide +kernel)) ggL_law_X8_spread
set_option maxRecDepth 20000 in
theorem ggL_law_X7_see : GoodIn wsL_fl wsX7_see := goodIn_r _ [972, 16, 973, 134, 360, 974, 141, 142, 43, 143, 144, 155, 84, 85, 33, 86, 66, 975, 452, 453, 454, 60, 976, 448, 449, 450, 61, 451, 1191, 1192, 1193, 1194, 1195, 1196, 1212, 1213, 1214, 1215, 1216, 1217, 1218, 1219, 1220, 1236, 1237, 1238, 1229, 1230, 1231, 1232, 1233, 1234, 1235] (by decide +kernel) (by decide +kernel)
set_option maxRecDepth 20000 in
theorem gL_law_X7_see : GoodIn wsL_fl (wsV RL 116 RX7 yX7_see wsX7_see) := goodIn_app (goodIn_r _ [969, 970, 971, 2] (by decide +kernel) (by decide +kernel)) ggL_law_X7_see
set_option maxRecDepth 20000 in
theorem ggL_law_X8_see : GoodIn wsL_fl wsX8_see := goodIn_r _ [980, 108, 163, 164, 165, 5, 166, 167, 168, 169, 1197, 1198, 1199, 1200, 1201, 1202, 1203, 1204, 1205, 1206, 1207, 1208, 1209, 1210, 1211] (by decide +kernel) (by decide +kernel)
set_option maxRecDepth 20000 in
theorem gL_law_X8_see : GoodIn wsL_fl (wsV RL 120 RX8 yX8_see wsX8_see) := goodIn_app (goodIn_r _ [977, 978, 979, 5] (by decide +kernel) (by decide +kernel)) ggL_law_X8_see
set_option maxRecDepth 20000 in
theorem ggL_law_X7_fits : GoodIn wsL_fl wsX7_fits := goodIn_r _ [984, 16, 985, 986, 987, 15, 988, 44, 989, 34, 990, 463, 464, 43, 465, 144, 61, 991, 734, 735, 33, 736, 737, 738, 739, 740, 66, 992, 746, 747, 748, 749, 742, 743, 744, 221, 222, 223, 224, 53, 225, 226, 227, 228, 83, 84, 85, 86, 75, 76, 77, 78, 87, 2, 88, 1191, 1192, 1193, 1194, 1195, 1196, 1212, 1213, 1214, 1215, 1216, 1217, 1218, 1219, 1220, 1236, 1237, 1238, 1229, 1230, 1231, 1232, 1233, 1234, 1235] (by decide +kernel) (by decide +kernel)
set_option maxRecDepth 20000 in
theorem gL_law_X7_fits : GoodIn wsL_fl (wsV RL 121 RX7 yX7_fits wsX7_fits) := goodIn_app (goodIn_r _ [981, 982, 983, 2] (by decide +kernel) (by decide +kernel)) ggL_law_X7_fits
set_option maxRecDepth 20000 in
theorem ggL_law_X8_fits : GoodIn wsL_fl wsX8_fits := goodIn_r _ [996, 997, 998, 999, 5, 1000, 108, 237, 238, 239, 240, 758, 759, 760, 761, 754, 755, 756, 757, 257, 258, 259, 260, 261, 262, 263, 264, 1197, 1198, 1199, 1200, 1201, 1202, 1203, 1204, 1205, 1206, 1207, 1208, 1209, 1210, 1211] (by decide +kernel) (by decide +kernel)
set_option maxRecDepth 20000 in
theorem gL_law_X8_fits : GoodIn wsL_fl (wsV RL 124 RX8 yX8_fits wsX8_fits) := goodIn_app (goodIn_r _ [993, 994, 995, 5] (by decide +kernel) (by decide +kernel)) ggL_law_X8_fits
set_option maxRecDepth 20000 in
theorem ggL_law_X7_odds : GoodIn wsL_fl wsX7_odds := goodIn_r _ [1004, 16, 134, 893, 339, 155, 84, 85, 33, 86, 66, 942, 943, 2, 944, 1005, 738, 739, 740, 783, 784, 785, 786, 737, 787, 746, 747, 748, 749, 742, 743, 744, 221, 222, 223, 224, 53, 225, 226, 227, 228, 83, 75, 76, 77, 78, 87, 88, 1006, 1007, 1008, 1191, 1192, 1193, 1194, 1195, 1196, 1212, 1213, 1214, 1215, 1216, 1217, 1218, 1219, 1220, 1229, 1230, 1231, 1232, 1233, 1234, 1235] (by decide +kernel) (by decide +kernel)
set_option maxRecDepth 20000 in
theorem gL_law_X7_odds : GoodIn wsL_fl (wsV RL 125 RX7 yX7_odds wsX7_odds) := goodIn_app (goodIn_r _ [1001, 1002, 1003, 2] (by decide +kernel) (by decide +kernel)) ggL_law_X7_odds
set_option maxRecDepth 20000 in
theorem ggL_law_X8_odds : GoodIn wsL_fl wsX8_odds := goodIn_r _ [1012, 906, 163, 164, 165, 5, 166, 108, 167, 168, 169, 800, 801, 802, 803, 237, 238, 239, 240, 758, 759, 760, 761, 754, 755, 756, 757, 257, 258, 259, 260, 261, 262, 263, 264, 1013, 1014, 1015, 1197, 1198, 1199, 1200, 1201, 1202, 1203, 1204, 1205, 1206, 1207, 1208, 1209, 1210, 1211] (by decide +kernel) (by decide +kernel)
set_option maxRecDepth 20000 in
theorem gL_law_X8_odds : GoodIn wsL_fl (wsV RL 128 RX8 yX8_odds wsX8_odds) := goodIn_app (goodIn_r _ [1009, 1010, 1011, 5] (by decide +kernel) (by decide +kernel)) ggL_law_X8_odds
set_option maxRecDepth 20000 in
theorem ggL_law_X7_mean : GoodIn wsL_fl wsX7_mean := goodIn_r _ [1019, 893, 16, 134, 135, 942, 943, 2, 944, 213, 214, 215, 33, 216, 66, 217, 218, 219, 220, 221, 222, 223, 224, 53, 225, 226, 227, 228, 83, 84, 85, 86, 75, 76, 77, 78, 87, 88, 1006, 1007, 1008, 1191, 1192, 1193, 1194, 1195, 1196, 1212, 1213, 1214, 1215, 1216, 1217, 1218, 1219, 1220, 1229, 1230, 1231, 1232, 1233, 1234, 1235] (by decide +kernel) (by decide +kernel)
set_option maxRecDepth 20000 in
theorem gL_law_X7_mean : GoodIn wsL_fl (wsV RL 129 RX7 yX7_mean wsX7_mean) := goodIn_app (goodIn_r _ [1016, 1017, 1018, 2] (by decide +kernel) (by decide +kernel)) ggL_law_X7_mean
set_option maxRecDepth 20000 in
theorem ggL_law_X8_mean : GoodIn wsL_fl wsX8_mean := goodIn_r _ [1023, 108, 906, 167, 168, 5, 169, 249, 250, 251, 252, 253, 254, 255, 256, 237, 238, 239, 240, 257, 258, 259, 260, 261, 262, 263, 264, 1013, 1014, 1015, 1197, 1198, 1199, 1200, 1201, 1202, 1203, 1204, 1205, 1206, 1207, 1208, 1209, 1210, 1211] (by decide +kernel) (by decide +kernel)
set_option maxRecDepth 20000 in
theorem gL_law_X8_mean : GoodIn wsL_fl (wsV RL 132 RX8 yX8_mean wsX8_mean) := goodIn_app (goodIn_r _ [1020, 1021, 1022, 5] (by decide +kernel) (by decide +kernel)) ggL_law_X8_mean
set_option maxRecDepth 20000 in
theorem ggL_law_X7_event : GoodIn wsL_fl wsX7_event := goodIn_r _ [1027, 16, 1028, 360, 974, 141, 142, 43, 143, 144, 177, 178, 179, 15, 180, 34, 181, 76, 77, 33, 78, 66, 182, 72, 73, 74, 75, 183, 84, 85, 86, 184, 2, 185, 157, 158, 975, 452, 453, 454, 60, 976, 448, 449, 450, 61, 451, 1191, 1192, 1193, 1194, 1195, 1196, 1212, 1213, 1214, 1215, 1216, 1217, 1218, 1219, 1220, 1236, 1237, 1238, 1229, 1230, 1231, 1232, 1233, 1234, 1235] (by decide +kernel) (by decide +kernel)
set_option maxRecDepth 20000 in
theorem gL_law_X7_event : GoodIn wsL_fl (wsV RL 133 RX7 yX7_event wsX7_event) := goodIn_app (goodIn_r _ [1024, 1025, 1026, 2] (by decide +kernel) (by decide +kernel)) ggL_law_X7_event
set_option maxRecDepth 20000 in
theorem ggL_law_X8_event : GoodIn wsL_fl wsX8_event := goodIn_r _ [1032, 108, 167, 168, 5, 169, 1033, 1034, 1035, 1036, 233, 234, 235, 236, 237, 238, 239, 240, 274, 275, 276, 277, 163, 164, 165, 166, 1197, 1198, 1199, 1200, 1201, 1202, 1203, 1204, 1205, 1206, 1207, 1208, 1209, 1210, 1211] (by decide +kernel) (by decide +kernel)
set_option maxRecDepth 20000 in
theorem gL_law_X8_event : GoodIn wsL_fl (wsV RL 136 RX8 yX8_event wsX8_event) := goodIn_app (goodIn_r _ [1029, 1030, 1031, 5] (by decide +kernel) (by decide +kernel)) ggL_law_X8_event
set_option maxRecDepth 20000 in
theorem ggL_law_X7_after : GoodIn wsL_fl wsX7_after := goodIn_r _ [1040, 893, 18, 16, 1028, 360, 134, 1041, 1042, 1043, 15, 1044, 34, 36, 1045, 1046, 1047, 1048, 37, 39, 40, 1049, 44, 45, 46, 1050, 1051, 1052, 33, 1053, 66, 50, 1054, 51, 52, 53, 54, 1055, 1056, 1057, 43, 1058, 60, 144, 61, 1059, 462, 463, 464, 465, 186, 187, 188, 189, 190, 191, 192, 193, 194, 195, 196, 197, 71, 72, 73, 74, 75, 76, 77, 78, 198, 199, 200, 201, 67, 68, 69, 70, 79, 80, 81, 82, 83, 84, 85, 86, 87, 2, 88, 202, 203, 204, 205, 206, 207, 208, 209, 210, 211, 212, 184, 185, 213, 214, 215, 216, 217, 218, 219, 220, 221, 222, 223, 224, 225, 226, 227, 228, 833, 602, 603, 604, 590, 605, 606, 607, 608, 609, 610, 923, 592, 593, 594, 595, 596, 597, 598, 599, 600, 601, 611, 612, 613, 614, 55, 615, 616, 617, 618, 619, 436, 437, 438, 294, 295, 296, 297, 620, 621, 622, 623, 624, 625, 626, 627, 628, 629, 630, 631, 632, 633, 634, 635, 636, 637, 638, 639, 510, 640, 183, 641, 642, 643, 644, 895, 896, 897, 898, 899, 900, 901, 1191, 1192, 1193, 1194, 1195, 1196, 1212, 1213, 1214, 1215, 1216, 1217, 1218, 1219, 1220, 1236, 1237, 1238, 1229, 1230, 1231, 1232, 1233, 1234, 1235] (by decide +kernel) (by decide +kernel)
set_option maxRecDepth 20000 in
theorem gL_law_X7_after : GoodIn wsL_fl (wsV RL 137 RX7 yX7_after wsX7_after) := goodIn_app (goodIn_r _ [1037, 1038, 1039, 2] (by decide +kernel) (by decide +kernel)) ggL_law_X7_after
set_option maxRecDepth 20000 in
theorem ggL_law_X8_after : GoodIn wsL_fl wsX8_after := goodIn_r _ [1063, 906, 108, 110, 167, 168, 5, 169, 1064, 1065, 1066, 1067, 1068, 1069, 1070, 241, 242, 243, 244, 245, 246, 247, 248, 278, 279, 280, 281, 126, 127, 128, 129, 302, 303, 304, 305, 237, 238, 239, 240, 249, 250, 251, 252, 253, 254, 255, 256, 257, 258, 259, 260, 261, 262, 263, 264, 667, 668, 669, 670, 658, 659, 660, 661, 662, 663, 664, 665, 666, 671, 672, 673, 674, 675, 676, 677, 678, 310, 311, 312, 313, 679, 680, 681, 682, 683, 684, 685, 686, 687, 688, 689, 690, 691, 692, 693, 694, 695, 639, 510, 640, 696, 697, 698, 699, 907, 908, 909, 910, 911, 912, 913, 914, 915, 916, 917, 918, 1197, 1198, 1199, 1200, 1201, 1202, 1203, 1204, 1205, 1206, 1207, 1208, 1209, 1210, 1211] (by decide +kernel) (by decide +kernel)
set_option maxRecDepth 20000 in
theorem gL_law_X8_after : GoodIn wsL_fl (wsV RL 140 RX8 yX8_after wsX8_after) := goodIn_app (goodIn_r _ [1060, 1061, 1062, 5] (by decide +kernel) (by decide +kernel)) ggL_law_X8_after
set_option maxRecDepth 20000 in
theorem ggL_law_X7_book : GoodIn wsL_fl wsX7_book := goodIn_r _ [1074, 16, 1075, 134, 360, 974, 141, 142, 43, 143, 144, 155, 84, 85, 33, 86, 66, 975, 452, 453, 454, 60, 976, 448, 449, 450, 61, 451, 1191, 1192, 1193, 1194, 1195, 1196, 1212, 1213, 1214, 1215, 1216, 1217, 1218, 1219, 1220, 1236, 1237, 1238, 1229, 1230, 1231, 1232, 1233, 1234, 1235] (by decide +kernel) (by decide +kernel)
set_option maxRecDepth 20000 in
theorem gL_law_X7_book : GoodIn wsL_fl (wsV RL 141 RX7 yX7_book wsX7_book) := goodIn_app (goodIn_r _ [1071, 1072, 1073, 2] (by decide +kernel) (by decide +kernel)) ggL_law_X7_book
set_option maxRecDepth 20000 in
theorem ggL_law_X8_book : GoodIn wsL_fl wsX8_book := goodIn_r _ [1079, 108, 163, 164, 165, 5, 166, 167, 168, 169, 1197, 1198, 1199, 1200, 1201, 1202, 1203, 1204, 1205, 1206, 1207, 1208, 1209, 1210, 1211] (by decide +kernel) (by decide +kernel)
set_option maxRecDepth 20000 in
theorem gL_law_X8_book : GoodIn wsL_fl (wsV RL 144 RX8 yX8_book wsX8_book) := goodIn_app (goodIn_r _ [1076, 1077, 1078, 5] (by decide +kernel) (by decide +kernel)) ggL_law_X8_book
set_option maxRecDepth 20000 in
theorem ggL_law_X7_looked : GoodIn wsL_fl wsX7_looked := goodIn_r _ [1083, 16, 1075, 360, 134, 462, 463, 464, 43, 465, 144, 61, 776, 218, 219, 33, 220, 66, 221, 222, 223, 224, 53, 225, 226, 227, 228, 83, 84, 85, 86, 75, 76, 77, 78, 87, 2, 88, 1191, 1192, 1193, 1194, 1195, 1196, 1212, 1213, 1214, 1215, 1216, 1217, 1218, 1219, 1220, 1236, 1237, 1238, 1229, 1230, 1231, 1232, 1233, 1234, 1235] (by decide +kernel) (by decide +kernel)
set_option maxRecDepth 20000 in
theorem gL_law_X7_looked : GoodIn wsL_fl (wsV RL 145 RX7 yX7_looked wsX7_looked) := goodIn_app (goodIn_r _ [1080, 1081, 1082, 2] (by decide +kernel) (by decide +kernel)) ggL_law_X7_looked
set_option maxRecDepth 20000 in
theorem ggL_law_X8_looked : GoodIn wsL_fl wsX8_looked := goodIn_r _ [1087, 108, 253, 254, 255, 5, 256, 237, 238, 239, 240, 257, 258, 259, 260, 261, 262, 263, 264, 1197, 1198, 1199, 1200, 1201, 1202, 1203, 1204, 1205, 1206, 1207, 1208, 1209, 1210, 1211] (by decide +kernel) (by decide +kernel)
set_option maxRecDepth 20000 in
theorem gL_law_X8_looked : GoodIn wsL_fl (wsV RL 148 RX8 yX8_looked wsX8_looked) := goodIn_app (goodIn_r _ [1084, 1085, 1086, 5] (by decide +kernel) (by decide +kernel)) ggL_law_X8_looked
set_option maxRecDepth 20000 in
theorem ggL_law_X7_judge : GoodIn wsL_fl wsX7_judge := goodIn_r _ [1091, 16, 134, 1092, 135, 1093, 1094, 1095, 1096, 2, 1097, 24, 155, 84, 85, 33, 86, 66, 1098, 1099, 1100, 26, 1101, 103, 1102, 1103, 1104, 1105, 1106, 894, 845, 846, 15, 847, 848, 849, 641, 642, 643, 644, 628, 629, 630, 631, 34, 632, 222, 223, 224, 53, 225, 226, 227, 228, 83, 75, 76, 77, 78, 87, 88, 633, 295, 296, 297, 52, 634, 635, 636, 637, 36, 638, 639, 510, 640, 37, 183, 895, 896, 897, 898, 899, 900, 901, 1191, 1192, 1193, 1194, 1195, 1196, 1212, 1213, 1214, 1215, 1216, 1217, 1218, 1219, 1220, 1226, 1227, 1228, 1229, 1230, 1231, 1232, 1233, 1234, 1235] (by decide +kernel) (by decide +kernel)
set_option maxRecDepth 20000 in
theorem gL_law_X7_judge : GoodIn wsL_fl (wsV RL 149 RX7 yX7_judge wsX7_judge) := goodIn_app (goodIn_r _ [1088, 1089, 1090, 2] (by decide +kernel) (by decide +kernel)) ggL_law_X7_judge
set_option maxRecDepth 20000 in
theorem ggL_law_X8_judge : GoodIn wsL_fl wsX8_judge := goodIn_r _ [1110, 114, 115, 116, 163, 164, 165, 5, 166, 108, 167, 168, 169, 1111, 1112, 1113, 237, 238, 239, 240, 867, 868, 869, 870, 871, 872, 696, 697, 698, 699, 687, 688, 689, 690, 257, 258, 259, 260, 261, 262, 263, 264, 310, 311, 312, 313, 691, 692, 693, 694, 695, 639, 510, 640, 907, 908, 909, 910, 911, 912, 913, 914, 915, 916, 917, 918, 1197, 1198, 1199, 1200, 1201, 1202, 1203, 1204, 1205, 1206, 1207, 1208, 1209, 1210, 1211] (by decide +kernel) (by decide +kernel)
set_option maxRecDepth 20000 in
theorem gL_law_X8_judge : GoodIn wsL_fl (wsV RL 152 RX8 yX8_judge wsX8_judge) := goodIn_app (goodIn_r _ [1107, 1108, 1109, 5] (by decide +kernel) (by decide +kernel)) ggL_law_X8_judge
set_option maxRecDepth 20000 in
theorem ggL_law_X7_image : GoodIn wsL_fl wsX7_image := goodIn_r _ [1117, 17, 16, 1118, 134, 135, 1041, 1042, 1043, 15, 1044, 34, 36, 1045, 1046, 1047, 1048, 37, 39, 40, 1049, 44, 45, 46, 1050, 1051, 1052, 33, 1053, 66, 50, 1054, 51, 52, 53, 54, 1055, 1056, 1057, 43, 1058, 60, 144, 61, 1059, 1191, 1192, 1193, 1194, 1195, 1196, 1212, 1213, 1214, 1215, 1216, 1217, 1218, 1219, 1220, 1229, 1230, 1231, 1232, 1233, 1234, 1235, 1236, 1237, 1238] (by decide +kernel) (by decide +kernel)
set_option maxRecDepth 20000 in
theorem gL_law_X7_image : GoodIn wsL_fl (wsV RL 153 RX7 yX7_image wsX7_image) := goodIn_app (goodIn_r _ [1114, 1115, 1116, 2] (by decide +kernel) (by decide +kernel)) ggL_law_X7_image
set_option maxRecDepth 20000 in
theorem ggL_law_X8_image : GoodIn wsL_fl wsX8_image := goodIn_r _ [1122, 108, 109, 1123, 1064, 1065, 5, 1066, 1197, 1198, 1199, 1200, 1201, 1202, 1203, 1204, 1205, 1206, 1207, 1208, 1209, 1210, 1211] (by decide +kernel) (by decide +kernel)
set_option maxRecDepth 20000 in
theorem gL_law_X8_image : GoodIn wsL_fl (wsV RL 156 RX8 yX8_image wsX8_image) := goodIn_app (goodIn_r _ [1119, 1120, 1121, 5] (by decide +kernel) (by decide +kernel)) ggL_law_X8_image
set_option maxRecDepth 20000 in
theorem ggL_law_X7_undo : GoodIn wsL_fl wsX7_undo := goodIn_r _ [1127, 1118, 16, 17, 134, 135, 1041, 1042, 1043, 15, 1044, 34, 36, 1045, 1046, 1047, 1048, 37, 39, 40, 1049, 44, 45, 46, 1050, 1051, 1052, 33, 1053, 66, 50, 1054, 51, 52, 53, 54, 1055, 1056, 1057, 43, 1058, 60, 144, 61, 1059, 1191, 1192, 1193, 1194, 1195, 1196, 1212, 1213, 1214, 1215, 1216, 1217, 1218, 1219, 1220, 1229, 1230, 1231, 1232, 1233, 1234, 1235, 1236, 1237, 1238] (by decide +kernel) (by decide +kernel)
set_option maxRecDepth 20000 in
theorem gL_law_X7_undo : GoodIn wsL_fl (wsV RL 157 RX7 yX7_undo wsX7_undo) := goodIn_app (goodIn_r _ [1124, 1125, 1126, 2] (by decide +kernel) (by decide +kernel)) ggL_law_X7_undo
set_option maxRecDepth 20000 in
theorem ggL_law_X8_undo : GoodIn wsL_fl wsX8_undo := goodIn_r _ [1131, 1123, 109, 108, 1064, 1065, 5, 1066, 1197, 1198, 1199, 1200, 1201, 1202, 1203, 1204, 1205, 1206, 1207, 1208, 1209, 1210, 1211] (by decide +kernel) (by decide +kernel)
set_option maxRecDepth 20000 in
theorem gL_law_X8_undo : GoodIn wsL_fl (wsV RL 160 RX8 yX8_undo wsX8_undo) := goodIn_app (goodIn_r _ [1128, 1129, 1130, 5] (by decide +kernel) (by decide +kernel)) ggL_law_X8_undo
set_option maxRecDepth 20000 in
theorem ggL_law_X7_count : GoodIn wsL_fl wsX7_count := goodIn_r _ [1135, 16, 973, 360, 1028, 1075, 22, 348, 1191, 1192, 1193, 1194, 1195, 1196, 1212, 1213, 1214, 1215, 1216, 1217, 1218, 1219, 1220, 1236, 1237, 1238, 1221, 1222, 1223, 1224, 1225] (by decide +kernel) (by decide +kernel)
set_option maxRecDepth 20000 in
theorem gL_law_X7_count : GoodIn wsL_fl (wsV RL 161 RX7 yX7_count wsX7_count) := goodIn_app (goodIn_r _ [1132, 1133, 1134, 2] (by decide +kernel) (by decide +kernel)) ggL_law_X7_count
set_option maxRecDepth 20000 in
theorem ggL_law_X8_count : GoodIn wsL_fl wsX8_count := goodIn_r _ [1139, 354, 108, 167, 168, 5, 169, 1197, 1198, 1199, 1200, 1201, 1202, 1203, 1204, 1205, 1206, 1207, 1208, 1209, 1210, 1211] (by decide +kernel) (by decide +kernel)
set_option maxRecDepth 20000 in
theorem gL_law_X8_count : GoodIn wsL_fl (wsV RL 164 RX8 yX8_count wsX8_count) := goodIn_app (goodIn_r _ [1136, 1137, 1138, 5] (by decide +kernel) (by decide +kernel)) ggL_law_X8_count
set_option maxRecDepth 20000 in
theorem ggL_law_X7_tape : GoodIn wsL_fl wsX7_tape := goodIn_r _ [1143, 1094, 1095, 1096, 2, 1097, 24, 1144, 1145, 1146, 26, 1147, 103, 1106, 102, 1148, 1149, 437, 1150, 1191, 1192, 1193, 1194, 1195, 1196, 1226, 1227, 1228] (by decide +kernel) (by decide +kernel)
set_option maxRecDepth 20000 in
theorem gL_law_X7_tape : GoodIn wsL_fl (wsV RL 165 RX7 yX7_tape wsX7_tape) := goodIn_app (goodIn_r _ [1140, 1141, 1142, 2] (by decide +kernel) (by decide +kernel)) ggL_law_X7_tape
set_option maxRecDepth 20000 in
theorem ggL_law_X8_tape : GoodIn wsL_fl wsX8_tape := goodIn_r _ [1154, 114, 115, 116, 1111, 1112, 5, 1113, 167, 168, 169, 1197, 1198, 1199, 1200, 1201, 1202, 1203, 1204, 1205, 1206, 1207, 1208, 1209, 1210, 1211] (by decide +kernel) (by decide +kernel)
set_option maxRecDepth 20000 in
theorem gL_law_X8_tape : GoodIn wsL_fl (wsV RL 168 RX8 yX8_tape wsX8_tape) := goodIn_app (goodIn_r _ [1151, 1152, 1153, 5] (by decide +kernel) (by decide +kernel)) ggL_law_X8_tape
set_option maxRecDepth 20000 in
theorem ggL_law_X7_item : GoodIn wsL_fl wsX7_item := goodIn_r _ [1158, 1093, 1094, 1095, 1096, 2, 1097, 24, 1098, 1099, 1100, 26, 1101, 103, 1102, 1103, 1104, 1105, 1106, 1159, 1160, 1161, 1162, 1226, 1227, 1228, 1191, 1192, 1193, 1194, 1195, 1196] (by decide +kernel) (by decide +kernel)
set_option maxRecDepth 20000 in
theorem gL_law_X7_item : GoodIn wsL_fl (wsV RL 171 RX7 yX7_item wsX7_item) := goodIn_app (goodIn_r _ [1155, 1156, 1157, 2] (by decide +kernel) (by decide +kernel)) ggL_law_X7_item
set_option maxRecDepth 20000 in
theorem ggL_law_X8_item : GoodIn wsL_fl wsX8_item := goodIn_r _ [1166, 114, 115, 116, 1111, 1112, 5, 1113, 167, 168, 169, 1167, 1168, 1169, 1197, 1198, 1199, 1200, 1201, 1202, 1203, 1204, 1205, 1206, 1207, 1208, 1209, 1210, 1211] (by decide +kernel) (by decide +kernel)
set_option maxRecDepth 20000 in
theorem gL_law_X8_item : GoodIn wsL_fl (wsV RL 175 RX8 yX8_item wsX8_item) := goodIn_app (goodIn_r _ [1163, 1164, 1165, 5] (by decide +kernel) (by decide +kernel)) ggL_law_X8_item
set_option maxRecDepth 20000 in
theorem ggL_law_X7_peek : GoodIn wsL_fl wsX7_peek := goodIn_r _ [1173, 893, 1093, 1094, 1095, 1096, 2, 1097, 24, 1102, 1103, 1104, 26, 1105, 1106, 1226, 1227, 1228, 1191, 1192, 1193, 1194, 1195, 1196] (by decide +kernel) (by decide +kernel)
set_option maxRecDepth 20000 in
theorem gL_law_X7_peek : GoodIn wsL_fl (wsV RL 176 RX7 yX7_peek wsX7_peek) := goodIn_app (goodIn_r _ [1170, 1171, 1172, 2] (by decide +kernel) (by decide +kernel)) ggL_law_X7_peek
set_option maxRecDepth 20000 in
theorem ggL_law_X8_peek_ : GoodIn wsL_fl wsX8_peek_ := goodIn_r _ [1177, 115, 116, 906, 1111, 1112, 5, 1113, 167, 168, 169, 1197, 1198, 1199, 1200, 1201, 1202, 1203, 1204, 1205, 1206, 1207, 1208, 1209, 1210, 1211] (by decide +kernel) (by decide +kernel)
set_option maxRecDepth 20000 in
theorem gL_law_X8_peek_ : GoodIn wsL_fl (wsV RL 179 RX8 yX8_peek_ wsX8_peek_) := goodIn_app (goodIn_r _ [1174, 1175, 1176, 5] (by decide +kernel) (by decide +kernel)) ggL_law_X8_peek_
set_option maxRecDepth 20000 in
theorem ggL_law_X7_shift : GoodIn wsL_fl wsX7_shift := goodIn_r _ [1181, 1092, 1093, 1182, 1046, 1047, 1048, 1094, 1095, 1096, 2, 1097, 24, 1098, 1099, 1100, 26, 1101, 103, 1183, 1184, 1185, 1186, 1106, 1226, 1227, 1228, 1191, 1192, 1193, 1194, 1195, 1196] (by decide +kernel) (by decide +kernel)
set_option maxRecDepth 20000 in
theorem gL_law_X7_shift : GoodIn wsL_fl (wsV RL 180 RX7 yX7_shift wsX7_shift) := goodIn_app (goodIn_r _ [1178, 1179, 1180, 2] (by decide +kernel) (by decide +kernel)) ggL_law_X7_shift
set_option maxRecDepth 20000 in
theorem ggL_law_X8_shift : GoodIn wsL_fl wsX8_shift := goodIn_r _ [1190, 114, 115, 117, 116, 1111, 1112, 5, 1113, 167, 168, 169, 1197, 1198, 1199, 1200, 1201, 1202, 1203, 1204, 1205, 1206, 1207, 1208, 1209, 1210, 1211] (by decide +kernel) (by decide +kernel)
set_option maxRecDepth 20000 in
theorem gL_law_X8_shift : GoodIn wsL_fl (wsV RL 184 RX8 yX8_shift wsX8_shift) := goodIn_app (goodIn_r _ [1187, 1188, 1189, 5] (by decide +kernel) (by decide +kernel)) ggL_law_X8_shift

