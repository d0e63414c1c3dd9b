theorem inlX0 : ∀ w ∈ wsX00, w ∈ wsL_law := fun _ h => List.mem_append_left _ (List.mem_append_left _ (List.mem_append_left _ (List.mem_append_left _ (List.mem_append_left _ (List.mem_append_left _ (List.mem_append_right _ h))))))
theorem inlX1 : ∀ w ∈ wsX10, w ∈ wsL_law := fun _ h => List.mem_append_left _ (List.mem_append_right _ h)
theorem inlX2 : ∀ w ∈ wsX20, w ∈ wsL_law := fun _ h => List.mem_append_left _ (List.mem_append_left _ (List.mem_append_left _ (List.mem_append_right _ h)))
theorem inlX3 : ∀ w ∈ wsX30, w ∈ wsL_law := fun _ h => List.mem_append_left _ (List.mem_append_left _ (List.mem_append_left _ (List.mem_append_left _ (List.mem_append_right _ h))))
theorem inlX4 : ∀ w ∈ wsX40, w ∈ wsL_law := fun _ h => List.mem_append_left _ (List.mem_append_left _ (List.mem_append_left _ (List.mem_append_left _ (List.mem_append_left _ (List.mem_append_left _ (List.mem_append_left _ (List.mem_append_right _ h)))))))
theorem inlX5 : ∀ w ∈ wsX50, w ∈ wsL_law := fun _ h => List.mem_append_left _ (List.mem_append_left _ (List.mem_append_left _ (List.mem_append_left _ (List.mem_append_left _ (List.mem_append_left _ (List.mem_append_left _ (List.mem_append_left _ (List.mem_append_left _ (List.mem_append_right _ h)))))))))
theorem inlX6 : ∀ w ∈ wsX60, w ∈ wsL_law := fun _ h => List.mem_append_left _ (List.mem_append_left _ (List.mem_append_right _ h))
theorem inlX7 : ∀ w ∈ wsX70, w ∈ wsL_law := fun _ h => List.mem_append_left _ (List.mem_append_left _ (List.mem_append_left _ (List.mem_append_left _ (List.mem_append_left _ (List.mem_append_left _ (List.mem_append_left _ (List.mem_append_left _ (List.mem_append_right _ h))))))))
theorem inlX8 : ∀ w ∈ wsX80, w ∈ wsL_law := fun _ h => List.mem_append_left _ (List.mem_append_left _ (List.mem_append_left _ (List.mem_append_left _ (List.mem_append_left _ (List.mem_append_left _ (List.mem_append_left _ (List.mem_append_left _ (List.mem_append_left _ (List.mem_append_left _ (List.mem_append_right _ h))))))))))
theorem inlX9 : ∀ w ∈ wsX90, w ∈ wsL_law := fun _ h => List.mem_append_left _ (List.mem_append_left _ (List.mem_append_left _ (List.mem_append_left _ (List.mem_append_left _ (List.mem_append_right _ h)))))
theorem inlX10 : ∀ w ∈ wsX100, w ∈ wsL_law := fun _ h => List.mem_append_left _ (List.mem_append_left _ (List.mem_append_left _ (List.mem_append_left _ (List.mem_append_left _ (List.mem_append_left _ (List.mem_append_left _ (List.mem_append_left _ (List.mem_append_left _ (List.mem_append_left _ (List.mem_append_left _ (List.mem_append_left _ (List.mem_append_right _ h))))))))))))
theorem inlX11 : ∀ w ∈ wsX110, w ∈ wsL_law := fun _ h => List.mem_append_left _ (List.mem_append_left _ (List.mem_append_left _ (List.mem_append_left _ (List.mem_append_left _ (List.mem_append_left _ (List.mem_append_left _ (List.mem_append_left _ (List.mem_append_left _ (List.mem_append_left _ (List.mem_append_left _ (List.mem_append_right _ h)))))))))))
set_option maxRecDepth 20000 in
theorem ggL_law_X10_init : GoodIn wsL_law wsX10_init := goodIn_r _ [9, 10, 11, 12, 13, 14, 15, 16, 17, 18, 19, 20, 21, 22, 23, 24, 25, 26, 27, 28, 29, 30, 31, 32, 33, 34, 35, 36, 37, 38, 39, 40, 41, 42, 43, 44, 45, 46, 47, 48, 49, 50, 51, 52, 53, 54, 55, 56, 57, 58, 59, 60, 61, 62, 63, 64, 65, 66, 67, 68, 69, 70, 71, 72, 73, 74, 75, 76, 77, 78, 79, 80, 81, 82, 83, 84, 85, 86, 87, 88, 89, 90, 91, 92, 93, 94, 95, 96, 97, 98, 99, 100, 101, 102, 103, 104, 105, 106, 107, 108, 109, 110, 111, 112, 113, 114, 115, 116, 117, 118, 119, 120, 121, 122, 123, 124, 125, 126, 127, 128, 129, 130, 131, 132, 133, 134, 135, 136, 137, 138, 139, 140, 141, 142, 143, 1124, 1125, 1126, 1127, 1128, 1129, 1074, 1075, 1076, 1077, 1078, 1079, 1080, 1081, 1082, 1083, 1084, 1085, 1086, 1087, 1088, 1089, 1090, 1091, 1130, 1131, 1132, 1133, 1134, 1135, 1136, 1137, 1138, 1139, 1140, 1141, 1142, 1143, 1144, 1145, 1146, 1147, 1148, 1149, 1150, 1151, 1152, 1153, 1154, 1155, 1156, 1157, 1158, 1159, 1160, 1161, 1162, 1163, 1164, 1165, 1166, 1167, 1168, 1169, 1170, 1171, 1172, 1173, 1174, 1175, 1176, 1177, 1178, 1179, 1180, 1181] (by decide +kernel) (by decide +kernel)
set_option maxRecDepth 20000 in
theorem gL_law_X10_init : GoodIn wsL_law (wsX10_init) := ggL_law_X10_init
set_option maxRecDepth 20000 in
theorem ggL_law_X11_init : GoodIn wsL_law wsX11_init := goodIn_r _ [146, 147, 11, 12, 44, 148, 149, 150, 151, 152, 153, 154, 155, 156, 157, 158, 159, 160, 161, 162, 163, 164, 5, 165, 166, 167, 168, 169, 170, 171, 172, 173, 174, 1092, 1093, 1094, 1095, 1096, 1097, 1098, 1099, 1100, 1101, 1102, 1103, 1104, 1105, 1106, 1107, 1108, 1109, 1110, 1111, 1112, 1113, 1114, 1115, 1116, 1117, 1118, 1119, 1120, 1121, 1122, 1123] (by decide +kernel) (by decide +kernel)
set_option maxRecDepth 20000 in
theorem gL_law_X11_init : GoodIn wsL_law (wsX11_init) := ggL_law_X11_init
set_option maxRecDepth 20000 in
theorem ggL_law_X10_type : GoodIn wsL_law wsX10_type := goodIn_r _ [178, 16, 179, 180, 181, 182, 15, 183, 184, 63, 185, 2, 186, 1074, 1075, 1076, 1077, 1078, 1079, 1080, 1081, 1082, 1083, 1084, 1085, 1086, 1087, 1088, 1089, 1090, 1091, 1124, 1125, 1126, 1127, 1128, 1129] (by decide +kernel) (by decide +kernel)
set_option maxRecDepth 20000 in
theorem gL_law_X10_type : GoodIn wsL_law (wsV RL 15 RX10 yX10_type wsX10_type) := goodIn_app (goodIn_of _ (by decide +kernel)) ggL_law_X10_type
set_option maxRecDepth 20000 in
theorem ggL_law_X11_type : GoodIn wsL_law wsX11_type := goodIn_r _ [190, 191, 192, 148, 193, 194, 195, 5, 196, 1092, 1093, 1094, 1095, 1096, 1097, 1098, 1099, 1100, 1101, 1102, 1103, 1104, 1105, 1106, 1107, 1108, 1109, 1110, 1111, 1112, 1113, 1114, 1115, 1116, 1117, 1118, 1119, 1120, 1121, 1122, 1123] (by decide +kernel) (by decide +kernel)
set_option maxRecDepth 20000 in
theorem gL_law_X11_type : GoodIn wsL_law (wsV RL 19 RX11 yX11_type wsX11_type) := goodIn_app (goodIn_of _ (by decide +kernel)) ggL_law_X11_type
set_option maxRecDepth 20000 in
theorem ggL_law_X10_clear : GoodIn wsL_law wsX10_clear := goodIn_r _ [200, 16, 179, 1074, 1075, 1076, 1077, 1078, 1079, 1080, 1081, 1082, 1083, 1084, 1085, 1086, 1087, 1088, 1089, 1090, 1091, 1124, 1125, 1126, 1127, 1128, 1129] (by decide +kernel) (by decide +kernel)
set_option maxRecDepth 20000 in
theorem gL_law_X10_clear : GoodIn wsL_law (wsV RL 20 RX10 yX10_clear wsX10_clear) := goodIn_app (goodIn_of _ (by decide +kernel)) ggL_law_X10_clear
set_option maxRecDepth 20000 in
theorem ggL_law_X11_clear : GoodIn wsL_law wsX11_clear := goodIn_r _ [204, 191, 192, 1092, 1093, 1094, 1095, 1096, 1097, 1098, 1099, 1100, 1101, 1102, 1103, 1104, 1105, 1106, 1107, 1108, 1109, 1110, 1111, 1112, 1113, 1114, 1115, 1116, 1117, 1118, 1119, 1120, 1121, 1122, 1123] (by decide +kernel) (by decide +kernel)
set_option maxRecDepth 20000 in
theorem gL_law_X11_clear : GoodIn wsL_law (wsV RL 24 RX11 yX11_clear wsX11_clear) := goodIn_app (goodIn_of _ (by decide +kernel)) ggL_law_X11_clear
set_option maxRecDepth 20000 in
theorem ggL_law_X10_table : GoodIn wsL_law wsX10_table := goodIn_r _ [208, 20, 25, 24, 16, 179, 209, 33, 210, 34, 38, 29, 211, 212, 213, 19, 214, 215, 216, 69, 217, 218, 219, 76, 77, 23, 78, 79, 80, 74, 81, 82, 83, 84, 85, 86, 87, 220, 221, 222, 15, 223, 224, 225, 226, 227, 228, 184, 63, 229, 230, 231, 2, 232, 233, 234, 235, 236, 237, 238, 239, 240, 241, 242, 243, 244, 245, 246, 247, 248, 249, 250, 251, 252, 253, 254, 255, 256, 257, 258, 259, 260, 261, 262, 263, 264, 265, 266, 267, 268, 269, 270, 271, 272, 273, 274, 275, 276, 277, 278, 279, 280, 281, 282, 283, 284, 285, 286, 287, 288, 289, 290, 291, 292, 293, 294, 295, 296, 297, 298, 299, 300, 301, 302, 303, 304, 305, 306, 307, 308, 309, 310, 311, 312, 68, 313, 314, 315, 316, 317, 318, 319, 320, 321, 322, 323, 324, 325, 326, 327, 328, 329, 330, 331, 332, 185, 186, 333, 334, 335, 336, 337, 338, 339, 340, 341, 342, 343, 344, 345, 346, 347, 348, 349, 350, 351, 352, 353, 354, 355, 356, 357, 358, 359, 37, 360, 361, 123, 124, 125, 28, 126, 127, 128, 129, 130, 131, 132, 133, 134, 135, 136, 137, 138, 139, 140, 141, 142, 143, 1074, 1075, 1076, 1077, 1078, 1079, 1080, 1081, 1082, 1083, 1084, 1085, 1086, 1087, 1088, 1089, 1090, 1091, 1124, 1125, 1126, 1127, 1128, 1129, 1154, 1155, 1156, 1130, 1131, 1132, 1133, 1134, 1135, 1136, 1137, 1138, 1139, 1140, 1141, 1142, 1143, 1157, 1158, 1159, 1160, 1144, 1145, 1146, 1147, 1148, 1149, 1150, 1151, 1152, 1153] (by decide +kernel) (by decide +kernel)
set_option maxRecDepth 20000 in
theorem gL_law_X10_table : GoodIn wsL_law (wsV RL 25 RX10 yX10_table wsX10_table) := goodIn_app (goodIn_of _ (by decide +kernel)) ggL_law_X10_table
set_option maxRecDepth 20000 in
theorem ggL_law_X11_table : GoodIn wsL_law wsX11_table := goodIn_r _ [365, 191, 366, 367, 368, 369, 192, 162, 163, 164, 5, 165, 149, 150, 370, 371, 372, 373, 374, 375, 376, 377, 378, 148, 194, 195, 196, 379, 380, 381, 382, 383, 384, 385, 386, 387, 388, 389, 390, 391, 392, 393, 394, 395, 396, 397, 398, 399, 400, 401, 402, 403, 404, 405, 406, 407, 408, 166, 167, 168, 169, 170, 154, 171, 172, 173, 174, 151, 1092, 1093, 1094, 1095, 1096, 1097, 1098, 1099, 1100, 1101, 1102, 1103, 1104, 1105, 1106, 1107, 1108, 1109, 1110, 1111, 1112, 1113, 1114, 1115, 1116, 1117, 1118, 1119, 1120, 1121, 1122, 1123] (by decide +kernel) (by decide +kernel)
set_option maxRecDepth 20000 in
theorem gL_law_X11_table : GoodIn wsL_law (wsV RL 28 RX11 yX11_table wsX11_table) := goodIn_app (goodIn_of _ (by decide +kernel)) ggL_law_X11_table
set_option maxRecDepth 20000 in
theorem ggL_law_X10_cell : GoodIn wsL_law wsX10_cell := goodIn_r _ [412, 24, 413, 414, 415, 23, 416, 79, 80, 417, 349, 350, 351, 418, 353, 354, 355, 74, 1074, 1075, 1076, 1077, 1078, 1079, 1080, 1081, 1082, 1083, 1084, 1085, 1086, 1087, 1088, 1089, 1090, 1091, 1134, 1135, 1136, 1137, 1138, 1139, 1140, 1141, 1142, 1143] (by decide +kernel) (by decide +kernel)
set_option maxRecDepth 20000 in
theorem gL_law_X10_cell : GoodIn wsL_law (wsV RL 29 RX10 yX10_cell wsX10_cell) := goodIn_app (goodIn_of _ (by decide +kernel)) ggL_law_X10_cell
set_option maxRecDepth 20000 in
theorem ggL_law_X11_cell : GoodIn wsL_law wsX11_cell := goodIn_r _ [422, 191, 423, 424, 425, 5, 426, 149, 150, 194, 195, 196, 1092, 1093, 1094, 1095, 1096, 1097, 1098, 1099, 1100, 1101, 1102, 1103, 1104, 1105, 1106, 1107, 1108, 1109, 1110, 1111, 1112, 1113, 1114, 1115, 1116, 1117, 1118, 1119, 1120, 1121, 1122, 1123] (by decide +kernel) (by decide +kernel)
set_option maxRecDepth 20000 in
theorem gL_law_X11_cell : GoodIn wsL_law (wsV RL 33 RX11 yX11_cell wsX11_cell) := goodIn_app (goodIn_of _ (by decide +kernel)) ggL_law_X11_cell
set_option maxRecDepth 20000 in
theorem ggL_law_X10_told : GoodIn wsL_law wsX10_told := goodIn_r _ [430, 24, 431, 432, 433, 434, 435, 436, 437, 438, 439, 1074, 1075, 1076, 1077, 1078, 1079, 1080, 1081, 1082, 1083, 1084, 1085, 1086, 1087, 1088, 1089, 1090, 1091, 1134, 1135, 1136, 1137, 1138, 1139, 1140, 1141, 1142, 1143] (by decide +kernel) (by decide +kernel)
set_option maxRecDepth 20000 in
theorem gL_law_X10_told : GoodIn wsL_law (wsV RL 34 RX10 yX10_told wsX10_told) := goodIn_app (goodIn_of _ (by decide +kernel)) ggL_law_X10_told
set_option maxRecDepth 20000 in
theorem ggL_law_X11_told : GoodIn wsL_law wsX11_told := goodIn_r _ [443, 191, 149, 194, 195, 5, 196, 1092, 1093, 1094, 1095, 1096, 1097, 1098, 1099, 1100, 1101, 1102, 1103, 1104, 1105, 1106, 1107, 1108, 1109, 1110, 1111, 1112, 1113, 1114, 1115, 1116, 1117, 1118, 1119, 1120, 1121, 1122, 1123] (by decide +kernel) (by decide +kernel)
set_option maxRecDepth 20000 in
theorem gL_law_X11_told : GoodIn wsL_law (wsV RL 38 RX11 yX11_told wsX11_told) := goodIn_app (goodIn_of _ (by decide +kernel)) ggL_law_X11_told
set_option maxRecDepth 20000 in
theorem ggL_law_X10_toy : GoodIn wsL_law wsX10_toy := goodIn_r _ [447, 24, 433, 434, 435, 1074, 1075, 1076, 1077, 1078, 1079, 1080, 1081, 1082, 1083, 1084, 1085, 1086, 1087, 1088, 1089, 1090, 1091, 1134, 1135, 1136, 1137, 1138, 1139, 1140, 1141, 1142, 1143] (by decide +kernel) (by decide +kernel)
set_option maxRecDepth 20000 in
theorem gL_law_X10_toy : GoodIn wsL_law (wsV RL 39 RX10 yX10_toy wsX10_toy) := goodIn_app (goodIn_of _ (by decide +kernel)) ggL_law_X10_toy
set_option maxRecDepth 20000 in
theorem ggL_law_X11_toy : GoodIn wsL_law wsX11_toy := goodIn_r _ [451, 191, 149, 194, 195, 5, 196, 1092, 1093, 1094, 1095, 1096, 1097, 1098, 1099, 1100, 1101, 1102, 1103, 1104, 1105, 1106, 1107, 1108, 1109, 1110, 1111, 1112, 1113, 1114, 1115, 1116, 1117, 1118, 1119, 1120, 1121, 1122, 1123] (by decide +kernel) (by decide +kernel)
set_option maxRecDepth 20000 in
theorem gL_law_X11_toy : GoodIn wsL_law (wsV RL 42 RX11 yX11_toy wsX11_toy) := goodIn_app (goodIn_of _ (by decide +kernel)) ggL_law_X11_toy
set_option maxRecDepth 20000 in
theorem ggL_law_X10_go : GoodIn wsL_law wsX10_go := goodIn_r _ [455, 29, 24, 456, 457, 458, 28, 459, 140, 130, 460, 461, 462, 23, 463, 352, 353, 354, 355, 79, 80, 74, 464, 465, 466, 467, 131, 141, 468, 469, 470, 471, 472, 473, 474, 475, 476, 231, 2, 232, 477, 414, 415, 416, 348, 349, 350, 351, 478, 479, 480, 481, 482, 483, 484, 485, 486, 133, 143, 135, 487, 488, 489, 490, 491, 492, 493, 494, 495, 496, 497, 498, 499, 500, 501, 132, 502, 503, 134, 504, 505, 506, 507, 142, 1074, 1075, 1076, 1077, 1078, 1079, 1080, 1081, 1082, 1083, 1084, 1085, 1086, 1087, 1088, 1089, 1090, 1091, 1144, 1145, 1146, 1147, 1148, 1149, 1150, 1151, 1152, 1153, 1134, 1135, 1136, 1137, 1138, 1139, 1140, 1141, 1142, 1143] (by decide +kernel) (by decide +kernel)
set_option maxRecDepth 20000 in
theorem gL_law_X10_go : GoodIn wsL_law (wsV RL 43 RX10 yX10_go wsX10_go) := goodIn_app (goodIn_of _ (by decide +kernel)) ggL_law_X10_go
set_option maxRecDepth 20000 in
theorem ggL_law_X11_go : GoodIn wsL_law wsX11_go := goodIn_r _ [511, 191, 194, 195, 5, 196, 512, 513, 514, 515, 151, 516, 517, 518, 519, 423, 424, 425, 426, 149, 150, 520, 521, 522, 523, 155, 524, 525, 526, 527, 528, 529, 530, 531, 532, 533, 534, 535, 536, 537, 538, 539, 540, 541, 542, 543, 544, 545, 546, 547, 548, 1092, 1093, 1094, 1095, 1096, 1097, 1098, 1099, 1100, 1101, 1102, 1103, 1104, 1105, 1106, 1107, 1108, 1109, 1110, 1111, 1112, 1113, 1114, 1115, 1116, 1117, 1118, 1119, 1120, 1121, 1122, 1123] (by decide +kernel) (by decide +kernel)
set_option maxRecDepth 20000 in
theorem gL_law_X11_go : GoodIn wsL_law (wsV RL 46 RX11 yX11_go wsX11_go) := goodIn_app (goodIn_of _ (by decide +kernel)) ggL_law_X11_go
set_option maxRecDepth 20000 in
theorem ggL_law_X10_wind : GoodIn wsL_law wsX10_wind := goodIn_r _ [552, 29, 553, 554, 555, 556, 2, 557, 24, 456, 457, 458, 28, 459, 140, 130, 460, 461, 462, 23, 463, 352, 353, 354, 355, 79, 80, 74, 1074, 1075, 1076, 1077, 1078, 1079, 1080, 1081, 1082, 1083, 1084, 1085, 1086, 1087, 1088, 1089, 1090, 1091, 1144, 1145, 1146, 1147, 1148, 1149, 1150, 1151, 1152, 1153, 1134, 1135, 1136, 1137, 1138, 1139, 1140, 1141, 1142, 1143] (by decide +kernel) (by decide +kernel)
set_option maxRecDepth 20000 in
theorem gL_law_X10_wind : GoodIn wsL_law (wsV RL 47 RX10 yX10_wind wsX10_wind) := goodIn_app (goodIn_of _ (by decide +kernel)) ggL_law_X10_wind
set_option maxRecDepth 20000 in
theorem ggL_law_X11_wind : GoodIn wsL_law wsX11_wind := goodIn_r _ [561, 191, 151, 194, 195, 5, 196, 512, 513, 514, 515, 516, 517, 518, 519, 423, 424, 425, 426, 149, 150, 1092, 1093, 1094, 1095, 1096, 1097, 1098, 1099, 1100, 1101, 1102, 1103, 1104, 1105, 1106, 1107, 1108, 1109, 1110, 1111, 1112, 1113, 1114, 1115, 1116, 1117, 1118, 1119, 1120, 1121, 1122, 1123] (by decide +kernel) (by decide +kernel)
set_option maxRecDepth 20000 in
theorem gL_law_X11_wind : GoodIn wsL_law (wsV RL 50 RX11 yX11_wind wsX11_wind) := goodIn_app (goodIn_of _ (by decide +kernel)) ggL_law_X11_wind
set_option maxRecDepth 20000 in
theorem ggL_law_X10_put : GoodIn wsL_law wsX10_put := goodIn_r _ [565, 29, 24, 566, 567, 568, 2, 569, 570, 410, 411, 412, 413, 414, 415, 23, 416, 79, 80, 417, 349, 350, 351, 418, 353, 354, 355, 74, 571, 137, 138, 28, 139, 140, 141, 142, 143, 1074, 1075, 1076, 1077, 1078, 1079, 1080, 1081, 1082, 1083, 1084, 1085, 1086, 1087, 1088, 1089, 1090, 1091, 1134, 1135, 1136, 1137, 1138, 1139, 1140, 1141, 1142, 1143, 1144, 1145, 1146, 1147, 1148, 1149, 1150, 1151, 1152, 1153] (by decide +kernel) (by decide +kernel)
set_option maxRecDepth 20000 in
theorem gL_law_X10_put : GoodIn wsL_law (wsV RL 51 RX10 yX10_put wsX10_put) := goodIn_app (goodIn_of _ (by decide +kernel)) ggL_law_X10_put
set_option maxRecDepth 20000 in
theorem ggL_law_X11_put : GoodIn wsL_law wsX11_put := goodIn_r _ [575, 191, 151, 576, 577, 578, 5, 579, 423, 424, 425, 426, 149, 150, 194, 195, 196, 1092, 1093, 1094, 1095, 1096, 1097, 1098, 1099, 1100, 1101, 1102, 1103, 1104, 1105, 1106, 1107, 1108, 1109, 1110, 1111, 1112, 1113, 1114, 1115, 1116, 1117, 1118, 1119, 1120, 1121, 1122, 1123] (by decide +kernel) (by decide +kernel)
set_option maxRecDepth 20000 in
theorem gL_law_X11_put : GoodIn wsL_law (wsV RL 55 RX11 yX11_put wsX11_put) := goodIn_app (goodIn_of _ (by decide +kernel)) ggL_law_X11_put
set_option maxRecDepth 20000 in
theorem ggL_law_X10_anew : GoodIn wsL_law wsX10_anew := goodIn_r _ [583, 29, 584, 24, 123, 124, 125, 28, 126, 127, 128, 129, 130, 131, 132, 133, 134, 135, 136, 137, 138, 139, 140, 141, 142, 143, 1074, 1075, 1076, 1077, 1078, 1079, 1080, 1081, 1082, 1083, 1084, 1085, 1086, 1087, 1088, 1089, 1090, 1091, 1144, 1145, 1146, 1147, 1148, 1149, 1150, 1151, 1152, 1153, 1134, 1135, 1136, 1137, 1138, 1139, 1140, 1141, 1142, 1143] (by decide +kernel) (by decide +kernel)
set_option maxRecDepth 20000 in
theorem gL_law_X10_anew : GoodIn wsL_law (wsV RL 56 RX10 yX10_anew wsX10_anew) := goodIn_app (goodIn_of _ (by decide +kernel)) ggL_law_X10_anew
set_option maxRecDepth 20000 in
theorem ggL_law_X11_anew : GoodIn wsL_law wsX11_anew := goodIn_r _ [588, 191, 151, 171, 172, 173, 5, 174, 149, 1092, 1093, 1094, 1095, 1096, 1097, 1098, 1099, 1100, 1101, 1102, 1103, 1104, 1105, 1106, 1107, 1108, 1109, 1110, 1111, 1112, 1113, 1114, 1115, 1116, 1117, 1118, 1119, 1120, 1121, 1122, 1123] (by decide +kernel) (by decide +kernel)
set_option maxRecDepth 20000 in
theorem gL_law_X11_anew : GoodIn wsL_law (wsV RL 59 RX11 yX11_anew wsX11_anew) := goodIn_app (goodIn_of _ (by decide +kernel)) ggL_law_X11_anew
set_option maxRecDepth 20000 in
theorem ggL_law_X10_now : GoodIn wsL_law wsX10_now := goodIn_r _ [592, 29, 593, 594, 595, 553, 24, 584, 596, 597, 598, 599, 456, 457, 458, 28, 459, 140, 130, 460, 461, 462, 23, 463, 352, 353, 354, 355, 79, 80, 74, 1074, 1075, 1076, 1077, 1078, 1079, 1080, 1081, 1082, 1083, 1084, 1085, 1086, 1087, 1088, 1089, 1090, 1091, 1144, 1145, 1146, 1147, 1148, 1149, 1150, 1151, 1152, 1153, 1134, 1135, 1136, 1137, 1138, 1139, 1140, 1141, 1142, 1143] (by decide +kernel) (by decide +kernel)
set_option maxRecDepth 20000 in
theorem gL_law_X10_now : GoodIn wsL_law (wsV RL 60 RX10 yX10_now wsX10_now) := goodIn_app (goodIn_of _ (by decide +kernel)) ggL_law_X10_now
set_option maxRecDepth 20000 in
theorem ggL_law_X11_now : GoodIn wsL_law wsX11_now := goodIn_r _ [603, 191, 151, 149, 194, 195, 5, 196, 423, 424, 425, 426, 150, 512, 513, 514, 515, 516, 517, 518, 519, 1092, 1093, 1094, 1095, 1096, 1097, 1098, 1099, 1100, 1101, 1102, 1103, 1104, 1105, 1106, 1107, 1108, 1109, 1110, 1111, 1112, 1113, 1114, 1115, 1116, 1117, 1118, 1119, 1120, 1121, 1122, 1123] (by decide +kernel) (by decide +kernel)
set_option maxRecDepth 20000 in
theorem gL_law_X11_now : GoodIn wsL_law (wsV RL 63 RX11 yX11_now wsX11_now) := goodIn_app (goodIn_of _ (by decide +kernel)) ggL_law_X11_now
set_option maxRecDepth 20000 in
theorem ggL_law_X10_round : GoodIn wsL_law wsX10_round := goodIn_r _ [607, 49, 608, 609, 610, 554, 555, 556, 2, 557, 29, 24, 456, 457, 458, 28, 459, 140, 130, 460, 461, 462, 23, 463, 352, 353, 354, 355, 79, 80, 74, 611, 612, 613, 614, 38, 433, 434, 435, 615, 616, 617, 37, 618, 361, 99, 619, 620, 621, 622, 623, 624, 625, 626, 470, 471, 472, 473, 474, 475, 476, 231, 232, 477, 414, 415, 416, 348, 349, 350, 351, 478, 479, 480, 481, 482, 627, 628, 185, 186, 629, 630, 631, 632, 633, 634, 635, 636, 637, 638, 593, 594, 595, 639, 640, 641, 642, 643, 644, 645, 42, 646, 647, 648, 41, 649, 650, 651, 652, 104, 653, 654, 655, 48, 656, 657, 658, 659, 660, 661, 662, 663, 664, 665, 306, 666, 667, 668, 669, 670, 671, 672, 673, 674, 675, 676, 677, 678, 679, 680, 109, 681, 682, 683, 684, 685, 686, 687, 1074, 1075, 1076, 1077, 1078, 1079, 1080, 1081, 1082, 1083, 1084, 1085, 1086, 1087, 1088, 1089, 1090, 1091, 1164, 1165, 1166, 1167, 1144, 1145, 1146, 1147, 1148, 1149, 1150, 1151, 1152, 1153, 1134, 1135, 1136, 1137, 1138, 1139, 1140, 1141, 1142, 1143, 1157, 1158, 1159, 1160, 1161, 1162, 1163] (by decide +kernel) (by decide +kernel)
set_option maxRecDepth 20000 in
theorem gL_law_X10_round : GoodIn wsL_law (wsV RL 64 RX10 yX10_round wsX10_round) := goodIn_app (goodIn_of _ (by decide +kernel)) ggL_law_X10_round
set_option maxRecDepth 20000 in
theorem ggL_law_X11_round : GoodIn wsL_law wsX11_round := goodIn_r _ [691, 191, 157, 155, 692, 693, 694, 695, 194, 195, 5, 196, 512, 513, 514, 515, 151, 516, 517, 518, 519, 423, 424, 425, 426, 149, 150, 696, 697, 698, 699, 542, 700, 701, 702, 703, 704, 705, 706, 707, 708, 709, 710, 711, 538, 539, 540, 541, 524, 525, 526, 527, 528, 529, 530, 531, 532, 533, 534, 535, 536, 537, 543, 544, 545, 546, 547, 548, 712, 713, 714, 715, 158, 716, 717, 718, 719, 1092, 1093, 1094, 1095, 1096, 1097, 1098, 1099, 1100, 1101, 1102, 1103, 1104, 1105, 1106, 1107, 1108, 1109, 1110, 1111, 1112, 1113, 1114, 1115, 1116, 1117, 1118, 1119, 1120, 1121, 1122, 1123] (by decide +kernel) (by decide +kernel)
set_option maxRecDepth 20000 in
theorem gL_law_X11_round : GoodIn wsL_law (wsV RL 67 RX11 yX11_round wsX11_round) := goodIn_app (goodIn_of _ (by decide +kernel)) ggL_law_X11_round
set_option maxRecDepth 20000 in
theorem ggL_law_X10_starts : GoodIn wsL_law wsX10_starts := goodIn_r _ [723, 53, 24, 38, 724, 725, 726, 727, 728, 611, 612, 613, 2, 614, 433, 434, 435, 615, 616, 617, 37, 618, 361, 99, 619, 620, 621, 23, 622, 79, 80, 623, 624, 625, 626, 470, 471, 472, 473, 474, 475, 476, 231, 232, 477, 414, 415, 416, 348, 349, 350, 351, 478, 479, 480, 481, 352, 353, 354, 355, 74, 482, 461, 462, 463, 627, 628, 185, 186, 629, 630, 631, 632, 633, 634, 729, 730, 731, 52, 732, 733, 734, 735, 736, 737, 115, 114, 738, 647, 648, 41, 649, 650, 651, 652, 104, 739, 740, 640, 641, 741, 742, 743, 744, 116, 745, 661, 662, 663, 664, 665, 306, 666, 746, 668, 669, 670, 747, 672, 673, 674, 675, 676, 748, 749, 750, 751, 117, 752, 753, 754, 755, 678, 679, 48, 680, 109, 659, 658, 657, 681, 654, 655, 656, 682, 683, 684, 685, 686, 687, 1074, 1075, 1076, 1077, 1078, 1079, 1080, 1081, 1082, 1083, 1084, 1085, 1086, 1087, 1088, 1089, 1090, 1091, 1168, 1169, 1170, 1171, 1172, 1173, 1174, 1175, 1176, 1134, 1135, 1136, 1137, 1138, 1139, 1140, 1141, 1142, 1143, 1157, 1158, 1159, 1160, 1161, 1162, 1163, 1164, 1165, 1166, 1167] (by decide +kernel) (by decide +kernel)
set_option maxRecDepth 20000 in
theorem gL_law_X10_starts : GoodIn wsL_law (wsV RL 68 RX10 yX10_starts wsX10_starts) := goodIn_app (goodIn_of _ (by decide +kernel)) ggL_law_X10_starts
set_option maxRecDepth 20000 in
theorem ggL_law_X11_starts : GoodIn wsL_law wsX11_starts := goodIn_r _ [759, 191, 760, 761, 762, 763, 194, 195, 5, 196, 764, 765, 766, 767, 150, 768, 769, 770, 771, 149, 772, 773, 774, 775, 542, 159, 700, 701, 702, 703, 157, 776, 777, 778, 779, 155, 423, 424, 425, 426, 780, 781, 782, 783, 158, 694, 704, 705, 706, 707, 708, 709, 710, 711, 538, 539, 540, 541, 524, 525, 526, 527, 528, 529, 530, 531, 532, 533, 534, 535, 536, 537, 516, 517, 518, 519, 543, 544, 545, 546, 151, 547, 548, 712, 713, 714, 715, 695, 716, 717, 718, 719, 1092, 1093, 1094, 1095, 1096, 1097, 1098, 1099, 1100, 1101, 1102, 1103, 1104, 1105, 1106, 1107, 1108, 1109, 1110, 1111, 1112, 1113, 1114, 1115, 1116, 1117, 1118, 1119, 1120, 1121, 1122, 1123] (by decide +kernel) (by decide +kernel)
set_option maxRecDepth 20000 in
theorem gL_law_X11_starts : GoodIn wsL_law (wsV RL 71 RX11 yX11_starts wsX11_starts) := goodIn_app (goodIn_of _ (by decide +kernel)) ggL_law_X11_starts
set_option maxRecDepth 20000 in
theorem ggL_law_X10_rings : GoodIn wsL_law wsX10_rings := goodIn_r _ [787, 53, 24, 38, 611, 612, 613, 2, 614, 433, 434, 435, 615, 616, 617, 37, 618, 361, 99, 619, 620, 621, 23, 622, 79, 80, 623, 624, 625, 626, 470, 471, 472, 473, 474, 475, 476, 231, 232, 477, 414, 415, 416, 348, 349, 350, 351, 478, 479, 480, 481, 352, 353, 354, 355, 74, 482, 461, 462, 463, 627, 628, 185, 186, 629, 630, 631, 632, 633, 634, 788, 789, 790, 52, 791, 115, 792, 738, 647, 648, 41, 649, 650, 651, 652, 104, 739, 740, 640, 641, 793, 794, 795, 796, 116, 797, 305, 306, 307, 675, 676, 745, 661, 662, 663, 664, 665, 666, 746, 668, 669, 670, 747, 672, 673, 674, 1074, 1075, 1076, 1077, 1078, 1079, 1080, 1081, 1082, 1083, 1084, 1085, 1086, 1087, 1088, 1089, 1090, 1091, 1134, 1135, 1136, 1137, 1138, 1139, 1140, 1141, 1142, 1143, 1157, 1158, 1159, 1160, 1168, 1169, 1170, 1171, 1172, 1173, 1174, 1175, 1176, 1161, 1162, 1163] (by decide +kernel) (by decide +kernel)
set_option maxRecDepth 20000 in
theorem gL_law_X10_rings : GoodIn wsL_law (wsV RL 72 RX10 yX10_rings wsX10_rings) := goodIn_app (goodIn_of _ (by decide +kernel)) ggL_law_X10_rings
set_option maxRecDepth 20000 in
theorem ggL_law_X11_rings : GoodIn wsL_law wsX11_rings := goodIn_r _ [801, 191, 542, 149, 194, 195, 5, 196, 768, 769, 770, 771, 776, 777, 778, 779, 155, 423, 424, 425, 426, 150, 802, 803, 804, 805, 708, 709, 710, 711, 538, 539, 540, 541, 524, 525, 526, 527, 528, 529, 530, 531, 532, 533, 534, 535, 536, 537, 516, 517, 518, 519, 543, 544, 545, 546, 151, 547, 548, 1092, 1093, 1094, 1095, 1096, 1097, 1098, 1099, 1100, 1101, 1102, 1103, 1104, 1105, 1106, 1107, 1108, 1109, 1110, 1111, 1112, 1113, 1114, 1115, 1116, 1117, 1118, 1119, 1120, 1121, 1122, 1123] (by decide +kernel) (by decide +kernel)
set_option maxRecDepth 20000 in
theorem gL_law_X11_rings : GoodIn wsL_law (wsV RL 75 RX11 yX11_rings wsX11_rings) := goodIn_app (goodIn_of _ (by decide +kernel)) ggL_law_X11_rings
set_option maxRecDepth 20000 in
theorem ggL_law_X10_common : GoodIn wsL_law wsX10_common := goodIn_r _ [809, 53, 24, 38, 611, 612, 613, 2, 614, 433, 434, 435, 615, 616, 617, 37, 618, 361, 99, 619, 620, 621, 23, 622, 79, 80, 623, 624, 625, 626, 470, 471, 472, 473, 474, 475, 476, 231, 232, 477, 414, 415, 416, 348, 349, 350, 351, 478, 479, 480, 481, 352, 353, 354, 355, 74, 482, 461, 462, 463, 627, 628, 185, 186, 629, 630, 631, 632, 633, 634, 729, 730, 731, 52, 732, 733, 734, 735, 736, 737, 115, 114, 738, 647, 648, 41, 649, 650, 651, 652, 104, 739, 740, 640, 641, 741, 742, 743, 744, 116, 745, 661, 662, 663, 664, 665, 306, 666, 746, 668, 669, 670, 747, 672, 673, 674, 675, 676, 748, 749, 750, 751, 117, 752, 753, 754, 755, 678, 679, 48, 680, 109, 659, 658, 657, 681, 654, 655, 656, 682, 683, 684, 685, 686, 687, 810, 811, 812, 813, 1074, 1075, 1076, 1077, 1078, 1079, 1080, 1081, 1082, 1083, 1084, 1085, 1086, 1087, 1088, 1089, 1090, 1091, 1134, 1135, 1136, 1137, 1138, 1139, 1140, 1141, 1142, 1143, 1157, 1158, 1159, 1160, 1168, 1169, 1170, 1171, 1172, 1173, 1174, 1175, 1176, 1161, 1162, 1163, 1164, 1165, 1166, 1167] (by decide +kernel) (by decide +kernel)
set_option maxRecDepth 20000 in
theorem gL_law_X10_common : GoodIn wsL_law (wsV RL 76 RX10 yX10_common wsX10_common) := goodIn_app (goodIn_of _ (by decide +kernel)) ggL_law_X10_common
set_option maxRecDepth 20000 in
theorem ggL_law_X11_common : GoodIn wsL_law wsX11_common := goodIn_r _ [817, 191, 762, 159, 772, 773, 774, 5, 775, 542, 760, 761, 763, 700, 701, 702, 703, 157, 768, 769, 770, 771, 149, 776, 777, 778, 779, 155, 423, 424, 425, 426, 150, 194, 195, 196, 780, 781, 782, 783, 158, 694, 704, 705, 706, 707, 708, 709, 710, 711, 538, 539, 540, 541, 524, 525, 526, 527, 528, 529, 530, 531, 532, 533, 534, 535, 536, 537, 516, 517, 518, 519, 543, 544, 545, 546, 151, 547, 548, 712, 713, 714, 715, 695, 716, 717, 718, 719, 1092, 1093, 1094, 1095, 1096, 1097, 1098, 1099, 1100, 1101, 1102, 1103, 1104, 1105, 1106, 1107, 1108, 1109, 1110, 1111, 1112, 1113, 1114, 1115, 1116, 1117, 1118, 1119, 1120, 1121, 1122, 1123] (by decide +kernel) (by decide +kernel)
set_option maxRecDepth 20000 in
theorem gL_law_X11_common : GoodIn wsL_law (wsV RL 79 RX11 yX11_common wsX11_common) := goodIn_app (goodIn_of _ (by decide +kernel)) ggL_law_X11_common
set_option maxRecDepth 20000 in
theorem ggL_law_X10_safe : GoodIn wsL_law wsX10_safe := goodIn_r _ [821, 38, 24, 434, 435, 53, 725, 629, 630, 631, 37, 632, 633, 634, 615, 616, 617, 618, 361, 99, 619, 620, 621, 23, 622, 79, 80, 623, 624, 625, 626, 470, 471, 472, 473, 474, 475, 476, 231, 2, 232, 477, 414, 415, 416, 348, 349, 350, 351, 478, 479, 480, 481, 352, 353, 354, 355, 74, 482, 461, 462, 463, 627, 628, 185, 186, 729, 730, 731, 52, 732, 733, 734, 735, 736, 737, 115, 114, 738, 647, 648, 41, 649, 650, 651, 652, 104, 739, 740, 640, 641, 741, 742, 743, 744, 116, 745, 661, 662, 663, 664, 665, 306, 666, 746, 668, 669, 670, 747, 672, 673, 674, 675, 676, 748, 749, 750, 751, 117, 752, 753, 754, 755, 678, 679, 48, 680, 109, 659, 658, 657, 681, 654, 655, 656, 682, 683, 684, 685, 686, 687, 1074, 1075, 1076, 1077, 1078, 1079, 1080, 1081, 1082, 1083, 1084, 1085, 1086, 1087, 1088, 1089, 1090, 1091, 1134, 1135, 1136, 1137, 1138, 1139, 1140, 1141, 1142, 1143, 1168, 1169, 1170, 1171, 1172, 1173, 1174, 1175, 1176, 1157, 1158, 1159, 1160, 1161, 1162, 1163, 1164, 1165, 1166, 1167] (by decide +kernel) (by decide +kernel)
set_option maxRecDepth 20000 in
theorem gL_law_X10_safe : GoodIn wsL_law (wsV RL 80 RX10 yX10_safe wsX10_safe) := goodIn_app (goodIn_of _ (by decide +kernel)) ggL_law_X10_safe
set_option maxRecDepth 20000 in
theorem ggL_law_X11_safe : GoodIn wsL_law wsX11_safe := goodIn_r _ [825, 191, 149, 760, 772, 773, 774, 5, 775, 542, 761, 762, 763, 159, 700, 701, 702, 703, 157, 768, 769, 770, 771, 776, 777, 778, 779, 155, 423, 424, 425, 426, 150, 194, 195, 196, 780, 781, 782, 783, 158, 694, 704, 705, 706, 707, 708, 709, 710, 711, 538, 539, 540, 541, 524, 525, 526, 527, 528, 529, 530, 531, 532, 533, 534, 535, 536, 537, 516, 517, 518, 519, 543, 544, 545, 546, 151, 547, 548, 712, 713, 714, 715, 695, 716, 717, 718, 719, 1092, 1093, 1094, 1095, 1096, 1097, 1098, 1099, 1100, 1101, 1102, 1103, 1104, 1105, 1106, 1107, 1108, 1109, 1110, 1111, 1112, 1113, 1114, 1115, 1116, 1117, 1118, 1119, 1120, 1121, 1122, 1123] (by decide +kernel) (by decide +kernel)
set_option maxRecDepth 20000 in
theorem gL_law_X11_safe : GoodIn wsL_law (wsV RL 83 RX11 yX11_safe wsX11_safe) := goodIn_app (goodIn_of _ (by decide +kernel)) ggL_law_X11_safe
set_option maxRecDepth 20000 in
theorem ggL_law_X10_covers : GoodIn wsL_law wsX10_covers := goodIn_r _ [829, 554, 555, 556, 2, 557, 29, 24, 456, 457, 458, 28, 459, 140, 130, 460, 461, 462, 23, 463, 352, 353, 354, 355, 79, 80, 74, 611, 612, 613, 614, 38, 433, 434, 435, 615, 616, 617, 37, 618, 361, 99, 619, 620, 621, 622, 623, 624, 625, 626, 470, 471, 472, 473, 474, 475, 476, 231, 232, 477, 414, 415, 416, 348, 349, 350, 351, 478, 479, 480, 481, 482, 627, 628, 185, 186, 629, 630, 631, 632, 633, 634, 830, 831, 832, 833, 43, 646, 647, 648, 41, 649, 650, 651, 652, 104, 635, 636, 637, 638, 593, 594, 595, 639, 640, 641, 834, 675, 676, 835, 685, 686, 687, 671, 672, 673, 674, 1074, 1075, 1076, 1077, 1078, 1079, 1080, 1081, 1082, 1083, 1084, 1085, 1086, 1087, 1088, 1089, 1090, 1091, 1144, 1145, 1146, 1147, 1148, 1149, 1150, 1151, 1152, 1153, 1134, 1135, 1136, 1137, 1138, 1139, 1140, 1141, 1142, 1143, 1157, 1158, 1159, 1160, 1161, 1162, 1163] (by decide +kernel) (by decide +kernel)
set_option maxRecDepth 20000 in
theorem gL_law_X10_covers : GoodIn wsL_law (wsV RL 84 RX10 yX10_covers wsX10_covers) := goodIn_app (goodIn_of _ (by decide +kernel)) ggL_law_X10_covers
set_option maxRecDepth 20000 in
theorem ggL_law_X11_covers : GoodIn wsL_law wsX11_covers := goodIn_r _ [839, 191, 194, 195, 5, 196, 512, 513, 514, 515, 151, 516, 517, 518, 519, 423, 424, 425, 426, 149, 150, 696, 697, 698, 699, 542, 155, 840, 841, 842, 843, 158, 716, 717, 718, 719, 708, 709, 710, 711, 538, 539, 540, 541, 524, 525, 526, 527, 528, 529, 530, 531, 532, 533, 534, 535, 536, 537, 543, 544, 545, 546, 547, 548, 1092, 1093, 1094, 1095, 1096, 1097, 1098, 1099, 1100, 1101, 1102, 1103, 1104, 1105, 1106, 1107, 1108, 1109, 1110, 1111, 1112, 1113, 1114, 1115, 1116, 1117, 1118, 1119, 1120, 1121, 1122, 1123] (by decide +kernel) (by decide +kernel)
set_option maxRecDepth 20000 in
theorem gL_law_X11_covers : GoodIn wsL_law (wsV RL 87 RX11 yX11_covers wsX11_covers) := goodIn_app (goodIn_of _ (by decide +kernel)) ggL_law_X11_covers
set_option maxRecDepth 20000 in
theorem ggL_law_X10_everywhere : GoodIn wsL_law wsX10_everywhere := goodIn_r _ [847, 43, 24, 38, 554, 555, 556, 2, 557, 29, 456, 457, 458, 28, 459, 140, 130, 460, 461, 462, 23, 463, 352, 353, 354, 355, 79, 80, 74, 611, 612, 613, 614, 433, 434, 435, 615, 616, 617, 37, 618, 361, 99, 619, 620, 621, 622, 623, 624, 625, 626, 470, 471, 472, 473, 474, 475, 476, 231, 232, 477, 414, 415, 416, 348, 349, 350, 351, 478, 479, 480, 481, 482, 627, 628, 185, 186, 629, 630, 631, 632, 633, 634, 646, 647, 648, 41, 649, 650, 651, 652, 104, 848, 849, 850, 851, 852, 635, 636, 637, 638, 593, 594, 595, 639, 640, 641, 834, 675, 676, 418, 835, 685, 686, 687, 671, 672, 673, 674, 1074, 1075, 1076, 1077, 1078, 1079, 1080, 1081, 1082, 1083, 1084, 1085, 1086, 1087, 1088, 1089, 1090, 1091, 1144, 1145, 1146, 1147, 1148, 1149, 1150, 1151, 1152, 1153, 1134, 1135, 1136, 1137, 1138, 1139, 1140, 1141, 1142, 1143, 1157, 1158, 1159, 1160, 1161, 1162, 1163] (by decide +kernel) (by decide +kernel)
set_option maxRecDepth 20000 in
theorem gL_law_X10_everywhere : GoodIn wsL_law (wsV RL 88 RX10 yX10_everywhere wsX10_everywhere) := goodIn_app (goodIn_of _ (by decide +kernel)) ggL_law_X10_everywhere
set_option maxRecDepth 20000 in
theorem ggL_law_X11_everywhere : GoodIn wsL_law wsX11_everywhere := goodIn_r _ [856, 191, 155, 158, 150, 512, 513, 514, 5, 515, 151, 516, 517, 518, 519, 423, 424, 425, 426, 149, 194, 195, 196, 696, 697, 698, 699, 542, 716, 717, 718, 719, 764, 765, 766, 767, 768, 769, 770, 771, 708, 709, 710, 711, 538, 539, 540, 541, 524, 525, 526, 527, 528, 529, 530, 531, 532, 533, 534, 535, 536, 537, 543, 544, 545, 546, 547, 548, 1092, 1093, 1094, 1095, 1096, 1097, 1098, 1099, 1100, 1101, 1102, 1103, 1104, 1105, 1106, 1107, 1108, 1109, 1110, 1111, 1112, 1113, 1114, 1115, 1116, 1117, 1118, 1119, 1120, 1121, 1122, 1123] (by decide +kernel) (by decide +kernel)
set_option maxRecDepth 20000 in
theorem gL_law_X11_everywhere : GoodIn wsL_law (wsV RL 91 RX11 yX11_everywhere wsX11_everywhere) := goodIn_app (goodIn_of _ (by decide +kernel)) ggL_law_X11_everywhere
set_option maxRecDepth 20000 in
theorem ggL_law_X10_best : GoodIn wsL_law wsX10_best := goodIn_r _ [860, 38, 24, 433, 435, 554, 555, 556, 2, 557, 29, 456, 457, 458, 28, 459, 140, 130, 460, 461, 462, 23, 463, 352, 353, 354, 355, 79, 80, 74, 615, 616, 617, 37, 618, 361, 99, 619, 620, 621, 622, 623, 624, 625, 626, 470, 471, 472, 473, 474, 475, 476, 231, 232, 477, 414, 415, 416, 348, 349, 350, 351, 478, 479, 480, 481, 482, 627, 628, 185, 186, 629, 630, 631, 632, 633, 634, 830, 831, 832, 833, 43, 646, 647, 648, 41, 649, 650, 651, 652, 104, 635, 636, 637, 638, 593, 594, 595, 639, 640, 641, 834, 675, 676, 835, 685, 686, 687, 671, 672, 673, 674, 1074, 1075, 1076, 1077, 1078, 1079, 1080, 1081, 1082, 1083, 1084, 1085, 1086, 1087, 1088, 1089, 1090, 1091, 1134, 1135, 1136, 1137, 1138, 1139, 1140, 1141, 1142, 1143, 1144, 1145, 1146, 1147, 1148, 1149, 1150, 1151, 1152, 1153, 1157, 1158, 1159, 1160, 1161, 1162, 1163] (by decide +kernel) (by decide +kernel)
set_option maxRecDepth 20000 in
theorem gL_law_X10_best : GoodIn wsL_law (wsV RL 92 RX10 yX10_best wsX10_best) := goodIn_app (goodIn_of _ (by decide +kernel)) ggL_law_X10_best
set_option maxRecDepth 20000 in
theorem ggL_law_X11_best : GoodIn wsL_law wsX11_best := goodIn_r _ [864, 191, 149, 194, 195, 5, 196, 512, 513, 514, 515, 151, 516, 517, 518, 519, 423, 424, 425, 426, 150, 696, 697, 698, 699, 542, 155, 840, 841, 842, 843, 158, 716, 717, 718, 719, 708, 709, 710, 711, 538, 539, 540, 541, 524, 525, 526, 527, 528, 529, 530, 531, 532, 533, 534, 535, 536, 537, 543, 544, 545, 546, 547, 548, 1092, 1093, 1094, 1095, 1096, 1097, 1098, 1099, 1100, 1101, 1102, 1103, 1104, 1105, 1106, 1107, 1108, 1109, 1110, 1111, 1112, 1113, 1114, 1115, 1116, 1117, 1118, 1119, 1120, 1121, 1122, 1123] (by decide +kernel) (by decide +kernel)
set_option maxRecDepth 20000 in
theorem gL_law_X11_best : GoodIn wsL_law (wsV RL 95 RX11 yX11_best wsX11_best) := goodIn_app (goodIn_of _ (by decide +kernel)) ggL_law_X11_best
set_option maxRecDepth 20000 in
theorem ggL_law_X10_track : GoodIn wsL_law wsX10_track := goodIn_r _ [868, 24, 209, 54, 869, 620, 621, 23, 622, 79, 80, 870, 185, 2, 186, 1074, 1075, 1076, 1077, 1078, 1079, 1080, 1081, 1082, 1083, 1084, 1085, 1086, 1087, 1088, 1089, 1090, 1091, 1134, 1135, 1136, 1137, 1138, 1139, 1140, 1141, 1142, 1143] (by decide +kernel) (by decide +kernel)
set_option maxRecDepth 20000 in
theorem gL_law_X10_track : GoodIn wsL_law (wsV RL 96 RX10 yX10_track wsX10_track) := goodIn_app (goodIn_of _ (by decide +kernel)) ggL_law_X10_track
set_option maxRecDepth 20000 in
theorem ggL_law_X11_track : GoodIn wsL_law wsX11_track := goodIn_r _ [874, 191, 170, 160, 768, 769, 770, 5, 771, 149, 194, 195, 196, 1092, 1093, 1094, 1095, 1096, 1097, 1098, 1099, 1100, 1101, 1102, 1103, 1104, 1105, 1106, 1107, 1108, 1109, 1110, 1111, 1112, 1113, 1114, 1115, 1116, 1117, 1118, 1119, 1120, 1121, 1122, 1123] (by decide +kernel) (by decide +kernel)
set_option maxRecDepth 20000 in
theorem gL_law_X11_track : GoodIn wsL_law (wsV RL 99 RX11 yX11_track wsX11_track) := goodIn_app (goodIn_of _ (by decide +kernel)) ggL_law_X11_track
set_option maxRecDepth 20000 in
theorem ggL_law_X10_wipe : GoodIn wsL_law wsX10_wipe := goodIn_r _ [878, 209, 1074, 1075, 1076, 1077, 1078, 1079, 1080, 1081, 1082, 1083, 1084, 1085, 1086, 1087, 1088, 1089, 1090, 1091] (by decide +kernel) (by decide +kernel)
set_option maxRecDepth 20000 in
theorem gL_law_X10_wipe : GoodIn wsL_law (wsV RL 100 RX10 yX10_wipe wsX10_wipe) := goodIn_app (goodIn_of _ (by decide +kernel)) ggL_law_X10_wipe
set_option maxRecDepth 20000 in
theorem ggL_law_X11_wipe : GoodIn wsL_law wsX11_wipe := goodIn_r _ [882, 191, 170, 1092, 1093, 1094, 1095, 1096, 1097, 1098, 1099, 1100, 1101, 1102, 1103, 1104, 1105, 1106, 1107, 1108, 1109, 1110, 1111, 1112, 1113, 1114, 1115, 1116, 1117, 1118, 1119, 1120, 1121, 1122, 1123] (by decide +kernel) (by decide +kernel)
set_option maxRecDepth 20000 in
theorem gL_law_X11_wipe : GoodIn wsL_law (wsV RL 103 RX11 yX11_wipe wsX11_wipe) := goodIn_app (goodIn_of _ (by decide +kernel)) ggL_law_X11_wipe
set_option maxRecDepth 20000 in
theorem ggL_law_X10_fits : GoodIn wsL_law wsX10_fits := goodIn_r _ [886, 38, 24, 433, 615, 616, 617, 37, 618, 361, 99, 619, 620, 621, 23, 622, 79, 80, 623, 624, 625, 626, 470, 471, 472, 473, 474, 475, 476, 231, 2, 232, 477, 414, 415, 416, 348, 349, 350, 351, 478, 479, 480, 481, 352, 353, 354, 355, 74, 482, 461, 462, 463, 627, 628, 185, 186, 629, 630, 631, 632, 633, 634, 887, 888, 889, 890, 209, 54, 891, 892, 639, 640, 641, 671, 672, 673, 674, 675, 676, 834, 1074, 1075, 1076, 1077, 1078, 1079, 1080, 1081, 1082, 1083, 1084, 1085, 1086, 1087, 1088, 1089, 1090, 1091, 1134, 1135, 1136, 1137, 1138, 1139, 1140, 1141, 1142, 1143, 1157, 1158, 1159, 1160] (by decide +kernel) (by decide +kernel)
set_option maxRecDepth 20000 in
theorem gL_law_X10_fits : GoodIn wsL_law (wsV RL 104 RX10 yX10_fits wsX10_fits) := goodIn_app (goodIn_of _ (by decide +kernel)) ggL_law_X10_fits
set_option maxRecDepth 20000 in
theorem ggL_law_X11_fits : GoodIn wsL_law wsX11_fits := goodIn_r _ [896, 191, 170, 542, 149, 194, 195, 5, 196, 897, 898, 899, 900, 155, 160, 516, 517, 518, 519, 423, 424, 425, 426, 150, 538, 539, 540, 541, 524, 525, 526, 527, 528, 529, 530, 531, 532, 533, 534, 535, 536, 537, 543, 544, 545, 546, 151, 547, 548, 708, 709, 710, 711, 1092, 1093, 1094, 1095, 1096, 1097, 1098, 1099, 1100, 1101, 1102, 1103, 1104, 1105, 1106, 1107, 1108, 1109, 1110, 1111, 1112, 1113, 1114, 1115, 1116, 1117, 1118, 1119, 1120, 1121, 1122, 1123] (by decide +kernel) (by decide +kernel)
set_option maxRecDepth 20000 in
theorem gL_law_X11_fits : GoodIn wsL_law (wsV RL 107 RX11 yX11_fits wsX11_fits) := goodIn_app (goodIn_of _ (by decide +kernel)) ggL_law_X11_fits
set_option maxRecDepth 20000 in
theorem ggL_law_X10_meet : GoodIn wsL_law wsX10_meet := goodIn_r _ [904, 24, 38, 566, 567, 568, 2, 569, 570, 410, 411, 412, 413, 414, 415, 23, 416, 79, 80, 417, 349, 350, 351, 418, 353, 354, 355, 74, 554, 555, 556, 557, 29, 456, 457, 458, 28, 459, 140, 130, 460, 461, 462, 463, 352, 611, 612, 613, 614, 433, 434, 435, 615, 616, 617, 37, 618, 361, 99, 619, 620, 621, 622, 623, 624, 625, 626, 470, 471, 472, 473, 474, 475, 476, 231, 232, 477, 348, 478, 479, 480, 481, 482, 627, 628, 185, 186, 629, 630, 631, 632, 633, 634, 635, 636, 637, 638, 593, 594, 595, 639, 640, 641, 834, 675, 676, 671, 672, 673, 674, 1074, 1075, 1076, 1077, 1078, 1079, 1080, 1081, 1082, 1083, 1084, 1085, 1086, 1087, 1088, 1089, 1090, 1091, 1134, 1135, 1136, 1137, 1138, 1139, 1140, 1141, 1142, 1143, 1144, 1145, 1146, 1147, 1148, 1149, 1150, 1151, 1152, 1153, 1157, 1158, 1159, 1160] (by decide +kernel) (by decide +kernel)
set_option maxRecDepth 20000 in
theorem gL_law_X10_meet : GoodIn wsL_law (wsV RL 108 RX10 yX10_meet wsX10_meet) := goodIn_app (goodIn_of _ (by decide +kernel)) ggL_law_X10_meet
set_option maxRecDepth 20000 in
theorem ggL_law_X11_meet : GoodIn wsL_law wsX11_meet := goodIn_r _ [908, 191, 156, 155, 576, 577, 578, 5, 579, 423, 424, 425, 426, 149, 150, 194, 195, 196, 512, 513, 514, 515, 151, 516, 517, 518, 519, 696, 697, 698, 699, 542, 538, 539, 540, 541, 524, 525, 526, 527, 528, 529, 530, 531, 532, 533, 534, 535, 536, 537, 543, 544, 545, 546, 547, 548, 1092, 1093, 1094, 1095, 1096, 1097, 1098, 1099, 1100, 1101, 1102, 1103, 1104, 1105, 1106, 1107, 1108, 1109, 1110, 1111, 1112, 1113, 1114, 1115, 1116, 1117, 1118, 1119, 1120, 1121, 1122, 1123] (by decide +kernel) (by decide +kernel)
set_option maxRecDepth 20000 in
theorem gL_law_X11_meet : GoodIn wsL_law (wsV RL 111 RX11 yX11_meet wsX11_meet) := goodIn_app (goodIn_of _ (by decide +kernel)) ggL_law_X11_meet
set_option maxRecDepth 20000 in
theorem ggL_law_X10_drawn : GoodIn wsL_law wsX10_drawn := goodIn_r _ [912, 43, 38, 24, 435, 554, 555, 556, 2, 557, 29, 456, 457, 458, 28, 459, 140, 130, 460, 461, 462, 23, 463, 352, 353, 354, 355, 79, 80, 74, 611, 612, 613, 614, 433, 434, 615, 616, 617, 37, 618, 361, 99, 619, 620, 621, 622, 623, 624, 625, 626, 470, 471, 472, 473, 474, 475, 476, 231, 232, 477, 414, 415, 416, 348, 349, 350, 351, 478, 479, 480, 481, 482, 627, 628, 185, 186, 629, 630, 631, 632, 633, 634, 646, 647, 648, 41, 649, 650, 651, 652, 104, 635, 636, 637, 638, 593, 594, 595, 639, 640, 641, 834, 675, 676, 835, 685, 686, 687, 913, 914, 915, 916, 917, 918, 919, 920, 59, 921, 671, 672, 673, 674, 1074, 1075, 1076, 1077, 1078, 1079, 1080, 1081, 1082, 1083, 1084, 1085, 1086, 1087, 1088, 1089, 1090, 1091, 1134, 1135, 1136, 1137, 1138, 1139, 1140, 1141, 1142, 1143, 1144, 1145, 1146, 1147, 1148, 1149, 1150, 1151, 1152, 1153, 1157, 1158, 1159, 1160, 1161, 1162, 1163] (by decide +kernel) (by decide +kernel)
set_option maxRecDepth 20000 in
theorem gL_law_X10_drawn : GoodIn wsL_law (wsV RL 112 RX10 yX10_drawn wsX10_drawn) := goodIn_app (goodIn_of _ (by decide +kernel)) ggL_law_X10_drawn
set_option maxRecDepth 20000 in
theorem ggL_law_X11_drawn : GoodIn wsL_law wsX11_drawn := goodIn_r _ [925, 191, 542, 194, 195, 5, 196, 512, 513, 514, 515, 151, 516, 517, 518, 519, 423, 424, 425, 426, 149, 150, 696, 697, 698, 699, 155, 840, 841, 842, 843, 158, 716, 717, 718, 719, 708, 709, 710, 711, 538, 539, 540, 541, 524, 525, 526, 527, 528, 529, 530, 531, 532, 533, 534, 535, 536, 537, 543, 544, 545, 546, 547, 548, 1092, 1093, 1094, 1095, 1096, 1097, 1098, 1099, 1100, 1101, 1102, 1103, 1104, 1105, 1106, 1107, 1108, 1109, 1110, 1111, 1112, 1113, 1114, 1115, 1116, 1117, 1118, 1119, 1120, 1121, 1122, 1123] (by decide +kernel) (by decide +kernel)
set_option maxRecDepth 20000 in
theorem gL_law_X11_drawn : GoodIn wsL_law (wsV RL 115 RX11 yX11_drawn wsX11_drawn) := goodIn_app (goodIn_of _ (by decide +kernel)) ggL_law_X11_drawn
set_option maxRecDepth 20000 in
theorem ggL_law_X10_lot : GoodIn wsL_law wsX10_lot := goodIn_r _ [929, 59, 1074, 1075, 1076, 1077, 1078, 1079, 1080, 1081, 1082, 1083, 1084, 1085, 1086, 1087, 1088, 1089, 1090, 1091] (by decide +kernel) (by decide +kernel)
set_option maxRecDepth 20000 in
theorem gL_law_X10_lot : GoodIn wsL_law (wsV RL 116 RX10 yX10_lot wsX10_lot) := goodIn_app (goodIn_of _ (by decide +kernel)) ggL_law_X10_lot
set_option maxRecDepth 20000 in
theorem ggL_law_X11_lot : GoodIn wsL_law wsX11_lot := goodIn_r _ [933, 191, 151, 1092, 1093, 1094, 1095, 1096, 1097, 1098, 1099, 1100, 1101, 1102, 1103, 1104, 1105, 1106, 1107, 1108, 1109, 1110, 1111, 1112, 1113, 1114, 1115, 1116, 1117, 1118, 1119, 1120, 1121, 1122, 1123] (by decide +kernel) (by decide +kernel)
set_option maxRecDepth 20000 in
theorem gL_law_X11_lot : GoodIn wsL_law (wsV RL 119 RX11 yX11_lot wsX11_lot) := goodIn_app (goodIn_of _ (by decide +kernel)) ggL_law_X11_lot
set_option maxRecDepth 20000 in
theorem ggL_law_X10_key : GoodIn wsL_law wsX10_key := goodIn_r _ [937, 58, 938, 939, 940, 941, 57, 942, 943, 121, 122, 185, 2, 186, 1074, 1075, 1076, 1077, 1078, 1079, 1080, 1081, 1082, 1083, 1084, 1085, 1086, 1087, 1088, 1089, 1090, 1091, 1177, 1178, 1179, 1180, 1181] (by decide +kernel) (by decide +kernel)
set_option maxRecDepth 20000 in
theorem gL_law_X10_key : GoodIn wsL_law (wsV RL 120 RX10 yX10_key wsX10_key) := goodIn_app (goodIn_of _ (by decide +kernel)) ggL_law_X10_key
set_option maxRecDepth 20000 in
theorem ggL_law_X11_key : GoodIn wsL_law wsX11_key := goodIn_r _ [947, 191, 948, 161, 194, 195, 5, 196, 1092, 1093, 1094, 1095, 1096, 1097, 1098, 1099, 1100, 1101, 1102, 1103, 1104, 1105, 1106, 1107, 1108, 1109, 1110, 1111, 1112, 1113, 1114, 1115, 1116, 1117, 1118, 1119, 1120, 1121, 1122, 1123] (by decide +kernel) (by decide +kernel)
set_option maxRecDepth 20000 in
theorem gL_law_X11_key : GoodIn wsL_law (wsV RL 123 RX11 yX11_key wsX11_key) := goodIn_app (goodIn_of _ (by decide +kernel)) ggL_law_X11_key
set_option maxRecDepth 20000 in
theorem ggL_law_X10_law : GoodIn wsL_law wsX10_law := goodIn_r _ [952, 953, 58, 954, 955, 956, 57, 957, 943, 121, 122, 958, 959, 231, 2, 232, 960, 961, 962, 963, 964, 965, 306, 966, 967, 968, 969, 1074, 1075, 1076, 1077, 1078, 1079, 1080, 1081, 1082, 1083, 1084, 1085, 1086, 1087, 1088, 1089, 1090, 1091, 1177, 1178, 1179, 1180, 1181] (by decide +kernel) (by decide +kernel)
set_option maxRecDepth 20000 in
theorem gL_law_X10_law : GoodIn wsL_law (wsV RL 124 RX10 yX10_law wsX10_law) := goodIn_app (goodIn_of _ (by decide +kernel)) ggL_law_X10_law
set_option maxRecDepth 20000 in
theorem ggL_law_X11_law : GoodIn wsL_law wsX11_law := goodIn_r _ [973, 191, 974, 948, 161, 194, 195, 5, 196, 975, 976, 977, 1092, 1093, 1094, 1095, 1096, 1097, 1098, 1099, 1100, 1101, 1102, 1103, 1104, 1105, 1106, 1107, 1108, 1109, 1110, 1111, 1112, 1113, 1114, 1115, 1116, 1117, 1118, 1119, 1120, 1121, 1122, 1123] (by decide +kernel) (by decide +kernel)
set_option maxRecDepth 20000 in
theorem gL_law_X11_law : GoodIn wsL_law (wsV RL 127 RX11 yX11_law wsX11_law) := goodIn_app (goodIn_of _ (by decide +kernel)) ggL_law_X11_law
set_option maxRecDepth 20000 in
theorem ggL_law_X10_circle : GoodIn wsL_law wsX10_circle := goodIn_r _ [981, 982, 968, 2, 969] (by decide +kernel) (by decide +kernel)
set_option maxRecDepth 20000 in
theorem gL_law_X10_circle : GoodIn wsL_law (wsV RL 128 RX10 yX10_circle wsX10_circle) := goodIn_app (goodIn_of _ (by decide +kernel)) ggL_law_X10_circle
set_option maxRecDepth 20000 in
theorem ggL_law_X11_circle : GoodIn wsL_law wsX11_circle := goodIn_r _ [986, 191, 194, 195, 5, 196, 975, 976, 977, 1092, 1093, 1094, 1095, 1096, 1097, 1098, 1099, 1100, 1101, 1102, 1103, 1104, 1105, 1106, 1107, 1108, 1109, 1110, 1111, 1112, 1113, 1114, 1115, 1116, 1117, 1118, 1119, 1120, 1121, 1122, 1123] (by decide +kernel) (by decide +kernel)
set_option maxRecDepth 20000 in
theorem gL_law_X11_circle : GoodIn wsL_law (wsV RL 131 RX11 yX11_circle wsX11_circle) := goodIn_app (goodIn_of _ (by decide +kernel)) ggL_law_X11_circle
set_option maxRecDepth 20000 in
theorem ggL_law_X10_rate : GoodIn wsL_law wsX10_rate := goodIn_r _ [990, 29, 599, 953, 991, 992, 993, 2, 994, 995, 597, 996, 997, 998, 999, 1000, 594, 1001, 1002, 1003, 1004, 1005, 24, 433, 1006, 1007, 1008, 1009, 1010, 1011, 1012, 1013, 1014, 1015, 1016, 1017, 1018, 1019, 1020, 1021, 596, 1074, 1075, 1076, 1077, 1078, 1079, 1080, 1081, 1082, 1083, 1084, 1085, 1086, 1087, 1088, 1089, 1090, 1091, 1144, 1145, 1146, 1147, 1148, 1149, 1150, 1151, 1152, 1153, 1134, 1135, 1136, 1137, 1138, 1139, 1140, 1141, 1142, 1143] (by decide +kernel) (by decide +kernel)
set_option maxRecDepth 20000 in
theorem gL_law_X10_rate : GoodIn wsL_law (wsV RL 132 RX10 yX10_rate wsX10_rate) := goodIn_app (goodIn_of _ (by decide +kernel)) ggL_law_X10_rate
set_option maxRecDepth 20000 in
theorem ggL_law_X11_rate : GoodIn wsL_law wsX11_rate := goodIn_r _ [1025, 191, 151, 974, 149, 1026, 1027, 1028, 1029, 1030, 1031, 194, 195, 5, 196, 1092, 1093, 1094, 1095, 1096, 1097, 1098, 1099, 1100, 1101, 1102, 1103, 1104, 1105, 1106, 1107, 1108, 1109, 1110, 1111, 1112, 1113, 1114, 1115, 1116, 1117, 1118, 1119, 1120, 1121, 1122, 1123] (by decide +kernel) (by decide +kernel)
set_option maxRecDepth 20000 in
theorem gL_law_X11_rate : GoodIn wsL_law (wsV RL 135 RX11 yX11_rate wsX11_rate) := goodIn_app (goodIn_of _ (by decide +kernel)) ggL_law_X11_rate
set_option maxRecDepth 20000 in
theorem ggL_law_X10_keep : GoodIn wsL_law wsX10_keep := goodIn_r _ [1035, 1036, 29, 59, 1037, 210, 584, 1038, 1039, 1040, 2, 1041, 33, 34, 1042, 1043, 1044, 28, 1045, 140, 141, 142, 143, 130, 131, 132, 133, 134, 135, 136, 137, 138, 139, 1154, 1155, 1156, 1074, 1075, 1076, 1077, 1078, 1079, 1080, 1081, 1082, 1083, 1084, 1085, 1086, 1087, 1088, 1089, 1090, 1091, 1144, 1145, 1146, 1147, 1148, 1149, 1150, 1151, 1152, 1153] (by decide +kernel) (by decide +kernel)
set_option maxRecDepth 20000 in
theorem gL_law_X10_keep : GoodIn wsL_law (wsV RL 136 RX10 yX10_keep wsX10_keep) := goodIn_app (goodIn_of _ (by decide +kernel)) ggL_law_X10_keep
set_option maxRecDepth 20000 in
theorem ggL_law_X11_keep : GoodIn wsL_law wsX11_keep := goodIn_r _ [1049, 191, 152, 151, 154, 194, 195, 5, 196, 1092, 1093, 1094, 1095, 1096, 1097, 1098, 1099, 1100, 1101, 1102, 1103, 1104, 1105, 1106, 1107, 1108, 1109, 1110, 1111, 1112, 1113, 1114, 1115, 1116, 1117, 1118, 1119, 1120, 1121, 1122, 1123] (by decide +kernel) (by decide +kernel)
set_option maxRecDepth 20000 in
theorem gL_law_X11_keep : GoodIn wsL_law (wsV RL 139 RX11 yX11_keep wsX11_keep) := goodIn_app (goodIn_of _ (by decide +kernel)) ggL_law_X11_keep
set_option maxRecDepth 20000 in
theorem ggL_law_X10_back : GoodIn wsL_law wsX10_back := goodIn_r _ [1053, 210, 29, 1036, 1037, 59, 584, 1038, 1039, 1040, 2, 1041, 33, 34, 1042, 1043, 1044, 28, 1045, 140, 141, 142, 143, 130, 131, 132, 133, 134, 135, 136, 137, 138, 139, 1154, 1155, 1156, 1074, 1075, 1076, 1077, 1078, 1079, 1080, 1081, 1082, 1083, 1084, 1085, 1086, 1087, 1088, 1089, 1090, 1091, 1144, 1145, 1146, 1147, 1148, 1149, 1150, 1151, 1152, 1153] (by decide +kernel) (by decide +kernel)
set_option maxRecDepth 20000 in
theorem gL_law_X10_back : GoodIn wsL_law (wsV RL 140 RX10 yX10_back wsX10_back) := goodIn_app (goodIn_of _ (by decide +kernel)) ggL_law_X10_back
set_option maxRecDepth 20000 in
theorem ggL_law_X11_back : GoodIn wsL_law wsX11_back := goodIn_r _ [1057, 191, 154, 151, 152, 194, 195, 5, 196, 1092, 1093, 1094, 1095, 1096, 1097, 1098, 1099, 1100, 1101, 1102, 1103, 1104, 1105, 1106, 1107, 1108, 1109, 1110, 1111, 1112, 1113, 1114, 1115, 1116, 1117, 1118, 1119, 1120, 1121, 1122, 1123] (by decide +kernel) (by decide +kernel)
set_option maxRecDepth 20000 in
theorem gL_law_X11_back : GoodIn wsL_law (wsV RL 143 RX11 yX11_back wsX11_back) := goodIn_app (goodIn_of _ (by decide +kernel)) ggL_law_X11_back
set_option maxRecDepth 20000 in
theorem ggL_law_X10_count : GoodIn wsL_law wsX10_count := goodIn_r _ [1061, 24, 209, 58, 938, 16, 179, 848, 849, 850, 23, 851, 852, 620, 621, 622, 79, 80, 352, 353, 354, 355, 74, 1074, 1075, 1076, 1077, 1078, 1079, 1080, 1081, 1082, 1083, 1084, 1085, 1086, 1087, 1088, 1089, 1090, 1091, 1177, 1178, 1179, 1180, 1181, 1124, 1125, 1126, 1127, 1128, 1129, 1134, 1135, 1136, 1137, 1138, 1139, 1140, 1141, 1142, 1143] (by decide +kernel) (by decide +kernel)
set_option maxRecDepth 20000 in
theorem gL_law_X10_count : GoodIn wsL_law (wsV RL 144 RX10 yX10_count wsX10_count) := goodIn_app (goodIn_of _ (by decide +kernel)) ggL_law_X10_count
set_option maxRecDepth 20000 in
theorem ggL_law_X11_count : GoodIn wsL_law wsX11_count := goodIn_r _ [1065, 191, 150, 170, 948, 192, 768, 769, 770, 5, 771, 149, 764, 765, 766, 767, 1092, 1093, 1094, 1095, 1096, 1097, 1098, 1099, 1100, 1101, 1102, 1103, 1104, 1105, 1106, 1107, 1108, 1109, 1110, 1111, 1112, 1113, 1114, 1115, 1116, 1117, 1118, 1119, 1120, 1121, 1122, 1123] (by decide +kernel) (by decide +kernel)
set_option maxRecDepth 20000 in
theorem gL_law_X11_count : GoodIn wsL_law (wsV RL 147 RX11 yX11_count wsX11_count) := goodIn_app (goodIn_of _ (by decide +kernel)) ggL_law_X11_count
set_option maxRecDepth 20000 in
theorem ggL_law_X10_trace : GoodIn wsL_law wsX10_trace := goodIn_r _ [1069, 995, 1074, 1075, 1076, 1077, 1078, 1079, 1080, 1081, 1082, 1083, 1084, 1085, 1086, 1087, 1088, 1089, 1090, 1091] (by decide +kernel) (by decide +kernel)
set_option maxRecDepth 20000 in
theorem gL_law_X10_trace : GoodIn wsL_law (wsV RL 148 RX10 yX10_trace wsX10_trace) := goodIn_app (goodIn_of _ (by decide +kernel)) ggL_law_X10_trace
set_option maxRecDepth 20000 in
theorem ggL_law_X11_trace : GoodIn wsL_law wsX11_trace := goodIn_r _ [1073, 191, 1026, 1092, 1093, 1094, 1095, 1096, 1097, 1098, 1099, 1100, 1101, 1102, 1103, 1104, 1105, 1106, 1107, 1108, 1109, 1110, 1111, 1112, 1113, 1114, 1115, 1116, 1117, 1118, 1119, 1120, 1121, 1122, 1123] (by decide +kernel) (by decide +kernel)
set_option maxRecDepth 20000 in
theorem gL_law_X11_trace : GoodIn wsL_law (wsV RL 152 RX11 yX11_trace wsX11_trace) := goodIn_app (goodIn_of _ (by decide +kernel)) ggL_law_X11_trace
