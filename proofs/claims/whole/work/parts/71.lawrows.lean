set_option maxRecDepth 100000 in
theorem ggL_law_X5_init : GoodIn wsL_law wsX5_init := goodIn_r _ [8, 9, 10, 11, 12, 13, 14, 15, 16, 17, 18, 19, 20, 21, 22, 23, 24, 25, 26, 27, 28, 29, 30, 31, 32, 33, 34, 35, 36, 37, 38, 39, 40, 41, 42, 43, 44, 45, 46, 47, 48, 49, 50, 51, 52, 53, 54, 55, 56, 57, 58, 59, 60, 61, 62, 63, 64, 65, 66, 67, 68, 69, 70, 71, 72, 73, 74, 75, 76, 1136, 1137, 1138, 1139, 1140, 1141, 1142, 1143, 1144, 1145, 1146, 1111, 1112, 1113, 1114, 1115, 1116, 1117, 1118, 1147, 1148, 1149, 1150, 1151, 1152, 1153, 1154, 1155, 1156, 1157, 1158, 1159, 1160, 1161] rfl (by decide +kernel)
set_option maxRecDepth 100000 in
theorem gL_law_X5_init : GoodIn wsL_law (wsX5_init) := ggL_law_X5_init
set_option maxRecDepth 100000 in
theorem ggL_law_X6_init : GoodIn wsL_law wsX6_init := goodIn_r _ [79, 80, 10, 11, 19, 81, 82, 83, 84, 85, 64, 86, 87, 88, 89, 90, 1119, 1120, 1121, 1122, 1123, 1124, 1125, 1126, 1127, 1128, 1129, 1130, 1131, 1132, 1133, 1134, 1135] rfl (by decide +kernel)
set_option maxRecDepth 100000 in
theorem gL_law_X6_init : GoodIn wsL_law (wsX6_init) := ggL_law_X6_init
set_option maxRecDepth 100000 in
theorem ggL_law_X5_set : GoodIn wsL_law wsX5_set := goodIn_r _ [94, 95, 96, 15, 97, 98, 99, 100, 101, 2, 102, 103, 104, 105, 106, 29, 107, 108, 109, 14, 110, 34, 35, 36, 1111, 1112, 1113, 1114, 1115, 1116, 1117, 1118, 1136, 1137, 1138, 1139, 1140, 1141, 1142, 1143, 1144, 1145, 1146] rfl (by decide +kernel)
set_option maxRecDepth 100000 in
theorem gL_law_X5_set : GoodIn wsL_law (wsV RL 13 RX5 yX5_set wsX5_set) := goodIn_app (goodIn_of _ (by decide +kernel)) ggL_law_X5_set
set_option maxRecDepth 100000 in
theorem ggL_law_X6_set : GoodIn wsL_law wsX6_set := goodIn_r _ [114, 115, 116, 5, 117, 118, 119, 120, 121, 122, 123, 124, 125, 126, 127, 128, 129, 130, 81, 131, 132, 133, 134, 85, 135, 1119, 1120, 1121, 1122, 1123, 1124, 1125, 1126, 1127, 1128, 1129, 1130, 1131, 1132, 1133, 1134, 1135] rfl (by decide +kernel)
set_option maxRecDepth 100000 in
theorem gL_law_X6_set : GoodIn wsL_law (wsV RL 17 RX6 yX6_set wsX6_set) := goodIn_app (goodIn_of _ (by decide +kernel)) ggL_law_X6_set
set_option maxRecDepth 100000 in
theorem ggL_law_X5_crier : GoodIn wsL_law wsX5_crier := goodIn_r _ [139, 96, 15, 100, 101, 2, 102, 103, 104, 105, 106, 29, 107, 108, 109, 14, 110, 34, 35, 36, 1111, 1112, 1113, 1114, 1115, 1116, 1117, 1118, 1136, 1137, 1138, 1139, 1140, 1141, 1142, 1143, 1144, 1145, 1146] rfl (by decide +kernel)
set_option maxRecDepth 100000 in
theorem gL_law_X5_crier : GoodIn wsL_law (wsV RL 18 RX5 yX5_crier wsX5_crier) := goodIn_app (goodIn_of _ (by decide +kernel)) ggL_law_X5_crier
set_option maxRecDepth 100000 in
theorem ggL_law_X6_crier : GoodIn wsL_law wsX6_crier := goodIn_r _ [143, 144, 81, 124, 125, 5, 126, 131, 132, 133, 134, 85, 135, 1119, 1120, 1121, 1122, 1123, 1124, 1125, 1126, 1127, 1128, 1129, 1130, 1131, 1132, 1133, 1134, 1135] rfl (by decide +kernel)
set_option maxRecDepth 100000 in
theorem gL_law_X6_crier : GoodIn wsL_law (wsV RL 22 RX6 yX6_crier wsX6_crier) := goodIn_app (goodIn_of _ (by decide +kernel)) ggL_law_X6_crier
set_option maxRecDepth 100000 in
theorem ggL_law_X5_cry : GoodIn wsL_law wsX5_cry := goodIn_r _ [148, 96, 15, 149, 150, 151, 2, 152, 100, 101, 102, 153, 154, 155, 103, 104, 105, 106, 29, 1111, 1112, 1113, 1114, 1115, 1116, 1117, 1118, 1136, 1137, 1138, 1139, 1140, 1141, 1142, 1143, 1144, 1145, 1146] rfl (by decide +kernel)
set_option maxRecDepth 100000 in
theorem gL_law_X5_cry : GoodIn wsL_law (wsV RL 23 RX5 yX5_cry wsX5_cry) := goodIn_app (goodIn_of _ (by decide +kernel)) ggL_law_X5_cry
set_option maxRecDepth 100000 in
theorem ggL_law_X6_cry : GoodIn wsL_law wsX6_cry := goodIn_r _ [159, 118, 124, 125, 5, 126, 160, 161, 162, 163, 127, 128, 129, 130, 81, 131, 132, 133, 134, 85, 135, 1119, 1120, 1121, 1122, 1123, 1124, 1125, 1126, 1127, 1128, 1129, 1130, 1131, 1132, 1133, 1134, 1135] rfl (by decide +kernel)
set_option maxRecDepth 100000 in
theorem gL_law_X6_cry : GoodIn wsL_law (wsV RL 26 RX6 yX6_cry wsX6_cry) := goodIn_app (goodIn_of _ (by decide +kernel)) ggL_law_X6_cry
set_option maxRecDepth 100000 in
theorem ggL_law_X5_listed : GoodIn wsL_law wsX5_listed := goodIn_r _ [167, 96, 15, 149, 150, 151, 2, 152, 100, 101, 102, 103, 104, 105, 106, 29, 1111, 1112, 1113, 1114, 1115, 1116, 1117, 1118, 1136, 1137, 1138, 1139, 1140, 1141, 1142, 1143, 1144, 1145, 1146] rfl (by decide +kernel)
set_option maxRecDepth 100000 in
theorem gL_law_X5_listed : GoodIn wsL_law (wsV RL 27 RX5 yX5_listed wsX5_listed) := goodIn_app (goodIn_of _ (by decide +kernel)) ggL_law_X5_listed
set_option maxRecDepth 100000 in
theorem ggL_law_X6_listed : GoodIn wsL_law wsX6_listed := goodIn_r _ [171, 118, 81, 124, 125, 5, 126, 131, 132, 133, 134, 85, 135, 1119, 1120, 1121, 1122, 1123, 1124, 1125, 1126, 1127, 1128, 1129, 1130, 1131, 1132, 1133, 1134, 1135] rfl (by decide +kernel)
set_option maxRecDepth 100000 in
theorem gL_law_X6_listed : GoodIn wsL_law (wsV RL 30 RX6 yX6_listed wsX6_listed) := goodIn_app (goodIn_of _ (by decide +kernel)) ggL_law_X6_listed
set_option maxRecDepth 100000 in
theorem ggL_law_X5_resident : GoodIn wsL_law wsX5_resident := goodIn_r _ [175, 96, 15, 176, 177, 178, 2, 179, 100, 101, 102, 103, 104, 105, 106, 29, 180, 181, 182, 14, 183, 42, 184, 185, 186, 187, 44, 188, 189, 190, 191, 47, 192, 51, 52, 53, 54, 55, 56, 1111, 1112, 1113, 1114, 1115, 1116, 1117, 1118, 1136, 1137, 1138, 1139, 1140, 1141, 1142, 1143, 1144, 1145, 1146, 1156, 1157, 1158, 1159, 1160, 1161] rfl (by decide +kernel)
set_option maxRecDepth 100000 in
theorem gL_law_X5_resident : GoodIn wsL_law (wsV RL 31 RX5 yX5_resident wsX5_resident) := goodIn_app (goodIn_of _ (by decide +kernel)) ggL_law_X5_resident
set_option maxRecDepth 100000 in
theorem ggL_law_X6_resident : GoodIn wsL_law wsX6_resident := goodIn_r _ [196, 197, 81, 124, 125, 5, 126, 120, 121, 122, 123, 131, 132, 133, 134, 85, 135, 198, 199, 200, 201, 202, 203, 204, 205, 1119, 1120, 1121, 1122, 1123, 1124, 1125, 1126, 1127, 1128, 1129, 1130, 1131, 1132, 1133, 1134, 1135] rfl (by decide +kernel)
set_option maxRecDepth 100000 in
theorem gL_law_X6_resident : GoodIn wsL_law (wsV RL 34 RX6 yX6_resident wsX6_resident) := goodIn_app (goodIn_of _ (by decide +kernel)) ggL_law_X6_resident
set_option maxRecDepth 100000 in
theorem ggL_law_X5_of : GoodIn wsL_law wsX5_of := goodIn_r _ [209, 15, 96, 210, 211, 212, 14, 213, 42, 101, 2, 102, 100, 103, 104, 105, 106, 29, 214, 215, 216, 217, 44, 34, 36, 218, 219, 220, 47, 221, 51, 52, 53, 54, 55, 56, 222, 223, 224, 225, 226, 227, 228, 229, 230, 231, 232, 233, 234, 235, 236, 237, 238, 239, 240, 241, 242, 243, 244, 245, 246, 247, 248, 249, 250, 251, 252, 1111, 1112, 1113, 1114, 1115, 1116, 1117, 1118, 1136, 1137, 1138, 1139, 1140, 1141, 1142, 1143, 1144, 1145, 1146, 1156, 1157, 1158, 1159, 1160, 1161] rfl (by decide +kernel)
set_option maxRecDepth 100000 in
theorem gL_law_X5_of : GoodIn wsL_law (wsV RL 35 RX5 yX5_of wsX5_of) := goodIn_app (goodIn_of _ (by decide +kernel)) ggL_law_X5_of
set_option maxRecDepth 100000 in
theorem ggL_law_X6_of : GoodIn wsL_law wsX6_of := goodIn_r _ [256, 257, 258, 259, 260, 5, 261, 81, 124, 125, 126, 131, 132, 133, 134, 85, 135, 262, 263, 264, 265, 266, 267, 268, 269, 270, 271, 272, 273, 274, 275, 276, 277, 278, 279, 280, 281, 282, 283, 284, 285, 286, 287, 288, 289, 290, 291, 1119, 1120, 1121, 1122, 1123, 1124, 1125, 1126, 1127, 1128, 1129, 1130, 1131, 1132, 1133, 1134, 1135] rfl (by decide +kernel)
set_option maxRecDepth 100000 in
theorem gL_law_X6_of : GoodIn wsL_law (wsV RL 38 RX6 yX6_of wsX6_of) := goodIn_app (goodIn_of _ (by decide +kernel)) ggL_law_X6_of
set_option maxRecDepth 100000 in
theorem ggL_law_X5_change : GoodIn wsL_law wsX5_change := goodIn_r _ [295, 15, 296, 96, 297, 210, 211, 212, 14, 213, 42, 101, 2, 102, 100, 103, 104, 105, 106, 29, 214, 215, 216, 217, 44, 34, 36, 218, 219, 220, 47, 221, 51, 52, 53, 54, 55, 56, 222, 223, 224, 225, 226, 227, 228, 229, 230, 231, 232, 233, 234, 235, 236, 237, 238, 239, 240, 241, 242, 243, 244, 245, 246, 247, 248, 249, 250, 251, 252, 298, 299, 300, 301, 1111, 1112, 1113, 1114, 1115, 1116, 1117, 1118, 1136, 1137, 1138, 1139, 1140, 1141, 1142, 1143, 1144, 1145, 1146, 1156, 1157, 1158, 1159, 1160, 1161] rfl (by decide +kernel)
set_option maxRecDepth 100000 in
theorem gL_law_X5_change : GoodIn wsL_law (wsV RL 39 RX5 yX5_change wsX5_change) := goodIn_app (goodIn_of _ (by decide +kernel)) ggL_law_X5_change
set_option maxRecDepth 100000 in
theorem ggL_law_X6_change : GoodIn wsL_law wsX6_change := goodIn_r _ [305, 118, 258, 259, 260, 5, 261, 81, 124, 125, 126, 306, 307, 308, 127, 128, 129, 130, 131, 132, 133, 134, 85, 135, 1119, 1120, 1121, 1122, 1123, 1124, 1125, 1126, 1127, 1128, 1129, 1130, 1131, 1132, 1133, 1134, 1135] rfl (by decide +kernel)
set_option maxRecDepth 100000 in
theorem gL_law_X6_change : GoodIn wsL_law (wsV RL 43 RX6 yX6_change wsX6_change) := goodIn_app (goodIn_of _ (by decide +kernel)) ggL_law_X6_change
set_option maxRecDepth 100000 in
theorem ggL_law_X5_tempted : GoodIn wsL_law wsX5_tempted := goodIn_r _ [312, 15, 96, 297, 210, 211, 212, 14, 213, 42, 101, 2, 102, 153, 154, 155, 100, 103, 104, 105, 106, 29, 313, 314, 315, 47, 316, 51, 53, 54, 1111, 1112, 1113, 1114, 1115, 1116, 1117, 1118, 1136, 1137, 1138, 1139, 1140, 1141, 1142, 1143, 1144, 1145, 1146, 1156, 1157, 1158, 1159, 1160, 1161] rfl (by decide +kernel)
set_option maxRecDepth 100000 in
theorem gL_law_X5_tempted : GoodIn wsL_law (wsV RL 44 RX5 yX5_tempted wsX5_tempted) := goodIn_app (goodIn_of _ (by decide +kernel)) ggL_law_X5_tempted
set_option maxRecDepth 100000 in
theorem ggL_law_X6_tempted : GoodIn wsL_law wsX6_tempted := goodIn_r _ [320, 258, 259, 260, 5, 261, 81, 124, 125, 126, 160, 161, 162, 163, 131, 132, 133, 134, 85, 135, 321, 322, 323, 324, 266, 267, 268, 269, 1119, 1120, 1121, 1122, 1123, 1124, 1125, 1126, 1127, 1128, 1129, 1130, 1131, 1132, 1133, 1134, 1135] rfl (by decide +kernel)
set_option maxRecDepth 100000 in
theorem gL_law_X6_tempted : GoodIn wsL_law (wsV RL 47 RX6 yX6_tempted wsX6_tempted) := goodIn_app (goodIn_of _ (by decide +kernel)) ggL_law_X6_tempted
set_option maxRecDepth 100000 in
theorem ggL_law_X5_register : GoodIn wsL_law wsX5_register := goodIn_r _ [328, 96, 15, 329, 153, 154, 2, 155, 100, 101, 102, 103, 104, 105, 106, 29, 1111, 1112, 1113, 1114, 1115, 1116, 1117, 1118, 1136, 1137, 1138, 1139, 1140, 1141, 1142, 1143, 1144, 1145, 1146] rfl (by decide +kernel)
set_option maxRecDepth 100000 in
theorem gL_law_X5_register : GoodIn wsL_law (wsV RL 48 RX5 yX5_register wsX5_register) := goodIn_app (goodIn_of _ (by decide +kernel)) ggL_law_X5_register
set_option maxRecDepth 100000 in
theorem ggL_law_X6_register : GoodIn wsL_law wsX6_register := goodIn_r _ [333, 81, 160, 161, 5, 162, 163, 124, 125, 126, 131, 132, 133, 134, 85, 135, 1119, 1120, 1121, 1122, 1123, 1124, 1125, 1126, 1127, 1128, 1129, 1130, 1131, 1132, 1133, 1134, 1135] rfl (by decide +kernel)
set_option maxRecDepth 100000 in
theorem gL_law_X6_register : GoodIn wsL_law (wsV RL 51 RX6 yX6_register wsX6_register) := goodIn_app (goodIn_of _ (by decide +kernel)) ggL_law_X6_register
set_option maxRecDepth 100000 in
theorem ggL_law_X5_comers : GoodIn wsL_law wsX5_comers := goodIn_r _ [337, 96, 15, 153, 154, 2, 155, 100, 101, 102, 103, 104, 105, 106, 29, 338, 339, 340, 14, 341, 42, 44, 34, 36, 342, 343, 344, 47, 345, 56, 54, 346, 347, 348, 349, 53, 226, 227, 228, 229, 51, 55, 350, 351, 352, 353, 245, 246, 247, 248, 52, 249, 250, 251, 252, 222, 223, 224, 225, 1111, 1112, 1113, 1114, 1115, 1116, 1117, 1118, 1136, 1137, 1138, 1139, 1140, 1141, 1142, 1143, 1144, 1145, 1146, 1156, 1157, 1158, 1159, 1160, 1161] rfl (by decide +kernel)
set_option maxRecDepth 100000 in
theorem gL_law_X5_comers : GoodIn wsL_law (wsV RL 52 RX5 yX5_comers wsX5_comers) := goodIn_app (goodIn_of _ (by decide +kernel)) ggL_law_X5_comers
set_option maxRecDepth 100000 in
theorem ggL_law_X6_comers : GoodIn wsL_law wsX6_comers := goodIn_r _ [357, 81, 160, 161, 5, 162, 163, 124, 125, 126, 131, 132, 133, 134, 85, 135, 358, 359, 360, 361, 362, 363, 364, 365, 266, 267, 268, 269, 285, 286, 287, 288, 289, 290, 291, 262, 263, 264, 265, 366, 367, 368, 369, 270, 271, 272, 273, 1119, 1120, 1121, 1122, 1123, 1124, 1125, 1126, 1127, 1128, 1129, 1130, 1131, 1132, 1133, 1134, 1135] rfl (by decide +kernel)
set_option maxRecDepth 100000 in
theorem gL_law_X6_comers : GoodIn wsL_law (wsV RL 55 RX6 yX6_comers wsX6_comers) := goodIn_app (goodIn_of _ (by decide +kernel)) ggL_law_X6_comers
set_option maxRecDepth 100000 in
theorem ggL_law_X5_go : GoodIn wsL_law wsX5_go := goodIn_r _ [373, 96, 15, 374, 375, 376, 377, 100, 101, 2, 102, 103, 104, 105, 106, 29, 378, 379, 380, 14, 381, 382, 383, 384, 385, 34, 35, 37, 40, 386, 387, 388, 251, 389, 390, 391, 392, 393, 42, 44, 36, 38, 394, 342, 343, 344, 47, 345, 56, 54, 346, 347, 348, 349, 53, 226, 227, 228, 229, 51, 55, 350, 351, 352, 353, 245, 246, 247, 248, 52, 249, 250, 252, 222, 223, 224, 225, 395, 396, 397, 398, 399, 400, 401, 402, 230, 231, 232, 233, 234, 235, 236, 237, 238, 239, 240, 403, 404, 405, 406, 407, 314, 315, 316, 241, 242, 243, 244, 408, 409, 410, 411, 39, 412, 413, 414, 415, 416, 417, 418, 419, 420, 421, 57, 58, 59, 60, 1111, 1112, 1113, 1114, 1115, 1116, 1117, 1118, 1136, 1137, 1138, 1139, 1140, 1141, 1142, 1143, 1144, 1145, 1146, 1156, 1157, 1158, 1159, 1160, 1161] rfl (by decide +kernel)
set_option maxRecDepth 100000 in
theorem gL_law_X5_go : GoodIn wsL_law (wsV RL 56 RX5 yX5_go wsX5_go) := goodIn_app (goodIn_of _ (by decide +kernel)) ggL_law_X5_go
set_option maxRecDepth 100000 in
theorem ggL_law_X6_go : GoodIn wsL_law wsX6_go := goodIn_r _ [425, 426, 81, 427, 124, 125, 5, 126, 131, 132, 133, 134, 85, 135, 428, 429, 430, 431, 432, 433, 434, 435, 362, 363, 364, 365, 266, 267, 268, 269, 358, 359, 360, 361, 285, 286, 287, 288, 289, 290, 291, 262, 263, 264, 265, 366, 367, 368, 369, 270, 271, 272, 273, 274, 275, 276, 277, 278, 279, 280, 436, 437, 438, 202, 203, 204, 205, 321, 322, 323, 324, 281, 282, 283, 284, 439, 440, 441, 442, 1119, 1120, 1121, 1122, 1123, 1124, 1125, 1126, 1127, 1128, 1129, 1130, 1131, 1132, 1133, 1134, 1135] rfl (by decide +kernel)
set_option maxRecDepth 100000 in
theorem gL_law_X6_go : GoodIn wsL_law (wsV RL 59 RX6 yX6_go wsX6_go) := goodIn_app (goodIn_of _ (by decide +kernel)) ggL_law_X6_go
set_option maxRecDepth 100000 in
theorem ggL_law_X5_now : GoodIn wsL_law wsX5_now := goodIn_r _ [446, 15, 374, 377, 96, 447, 448, 449, 14, 450, 42, 451, 452, 453, 454, 44, 455, 456, 457, 458, 459, 460, 461, 462, 463, 464, 465, 466, 467, 468, 469, 38, 470, 418, 419, 420, 471, 413, 414, 415, 416, 401, 251, 402, 417, 421, 235, 236, 237, 238, 239, 240, 103, 104, 105, 2, 106, 29, 100, 101, 102, 1111, 1112, 1113, 1114, 1115, 1116, 1117, 1118, 1136, 1137, 1138, 1139, 1140, 1141, 1142, 1143, 1144, 1145, 1146, 1156, 1157, 1158, 1159, 1160, 1161] rfl (by decide +kernel)
set_option maxRecDepth 100000 in
theorem gL_law_X5_now : GoodIn wsL_law (wsV RL 60 RX5 yX5_now wsX5_now) := goodIn_app (goodIn_of _ (by decide +kernel)) ggL_law_X5_now
set_option maxRecDepth 100000 in
theorem ggL_law_X6_now : GoodIn wsL_law wsX6_now := goodIn_r _ [475, 81, 476, 477, 478, 5, 479, 266, 267, 268, 269, 480, 481, 482, 483, 484, 485, 486, 487, 439, 440, 441, 442, 131, 132, 133, 134, 85, 135, 1119, 1120, 1121, 1122, 1123, 1124, 1125, 1126, 1127, 1128, 1129, 1130, 1131, 1132, 1133, 1134, 1135] rfl (by decide +kernel)
set_option maxRecDepth 100000 in
theorem gL_law_X6_now : GoodIn wsL_law (wsV RL 63 RX6 yX6_now wsX6_now) := goodIn_app (goodIn_of _ (by decide +kernel)) ggL_law_X6_now
set_option maxRecDepth 100000 in
theorem ggL_law_X5_ahead : GoodIn wsL_law wsX5_ahead := goodIn_r _ [491, 15, 96, 16, 100, 101, 2, 102, 210, 211, 212, 14, 213, 42, 103, 104, 105, 106, 29, 492, 493, 494, 495, 34, 35, 36, 37, 496, 497, 498, 499, 38, 39, 40, 41, 44, 45, 500, 501, 502, 47, 503, 51, 52, 53, 54, 55, 56, 378, 379, 380, 381, 382, 383, 384, 385, 386, 387, 388, 251, 389, 390, 391, 392, 393, 394, 342, 343, 344, 345, 346, 347, 348, 349, 226, 227, 228, 229, 350, 351, 352, 353, 245, 246, 247, 248, 249, 250, 252, 222, 223, 224, 225, 395, 396, 397, 398, 399, 400, 401, 402, 230, 231, 232, 233, 234, 235, 236, 237, 238, 239, 240, 403, 404, 405, 406, 407, 314, 315, 316, 241, 242, 243, 244, 408, 409, 410, 411, 412, 413, 414, 415, 416, 417, 418, 419, 420, 421, 57, 58, 59, 60, 214, 215, 216, 217, 218, 219, 220, 221, 1111, 1112, 1113, 1114, 1115, 1116, 1117, 1118, 1136, 1137, 1138, 1139, 1140, 1141, 1142, 1143, 1144, 1145, 1146, 1156, 1157, 1158, 1159, 1160, 1161] rfl (by decide +kernel)
set_option maxRecDepth 100000 in
theorem gL_law_X5_ahead : GoodIn wsL_law (wsV RL 64 RX5 yX5_ahead wsX5_ahead) := goodIn_app (goodIn_of _ (by decide +kernel)) ggL_law_X5_ahead
set_option maxRecDepth 100000 in
theorem ggL_law_X6_ahead : GoodIn wsL_law wsX6_ahead := goodIn_r _ [507, 144, 508, 509, 81, 83, 258, 259, 260, 5, 261, 124, 125, 126, 131, 132, 133, 134, 85, 135, 510, 511, 512, 428, 429, 430, 431, 432, 433, 434, 435, 427, 362, 363, 364, 365, 266, 267, 268, 269, 358, 359, 360, 361, 285, 286, 287, 288, 289, 290, 291, 262, 263, 264, 265, 366, 367, 368, 369, 270, 271, 272, 273, 274, 275, 276, 277, 278, 279, 280, 436, 437, 438, 202, 203, 204, 205, 321, 322, 323, 324, 281, 282, 283, 284, 439, 440, 441, 442, 1119, 1120, 1121, 1122, 1123, 1124, 1125, 1126, 1127, 1128, 1129, 1130, 1131, 1132, 1133, 1134, 1135] rfl (by decide +kernel)
set_option maxRecDepth 100000 in
theorem gL_law_X6_ahead : GoodIn wsL_law (wsV RL 67 RX6 yX6_ahead wsX6_ahead) := goodIn_app (goodIn_of _ (by decide +kernel)) ggL_law_X6_ahead
set_option maxRecDepth 100000 in
theorem ggL_law_X5_gold : GoodIn wsL_law wsX5_gold := goodIn_r _ [516, 96, 16, 15, 377, 100, 101, 2, 102, 103, 104, 105, 106, 29, 492, 493, 494, 14, 495, 34, 35, 36, 37, 496, 497, 498, 499, 38, 39, 40, 41, 42, 44, 45, 500, 501, 502, 47, 503, 51, 52, 53, 54, 55, 56, 378, 379, 380, 381, 382, 383, 384, 385, 386, 387, 388, 251, 389, 390, 391, 392, 393, 394, 342, 343, 344, 345, 346, 347, 348, 349, 226, 227, 228, 229, 350, 351, 352, 353, 245, 246, 247, 248, 249, 250, 252, 222, 223, 224, 225, 395, 396, 397, 398, 399, 400, 401, 402, 230, 231, 232, 233, 234, 235, 236, 237, 238, 239, 240, 403, 404, 405, 406, 407, 314, 315, 316, 241, 242, 243, 244, 408, 409, 410, 411, 412, 413, 414, 415, 416, 417, 418, 419, 420, 421, 57, 58, 59, 60, 1111, 1112, 1113, 1114, 1115, 1116, 1117, 1118, 1136, 1137, 1138, 1139, 1140, 1141, 1142, 1143, 1144, 1145, 1146, 1156, 1157, 1158, 1159, 1160, 1161] rfl (by decide +kernel)
set_option maxRecDepth 100000 in
theorem gL_law_X5_gold : GoodIn wsL_law (wsV RL 68 RX5 yX5_gold wsX5_gold) := goodIn_app (goodIn_of _ (by decide +kernel)) ggL_law_X5_gold
set_option maxRecDepth 100000 in
theorem ggL_law_X6_gold : GoodIn wsL_law wsX6_gold := goodIn_r _ [520, 509, 81, 83, 124, 125, 5, 126, 131, 132, 133, 134, 85, 135, 510, 511, 512, 521, 522, 523, 524, 428, 429, 430, 431, 432, 433, 434, 435, 427, 362, 363, 364, 365, 266, 267, 268, 269, 358, 359, 360, 361, 285, 286, 287, 288, 289, 290, 291, 262, 263, 264, 265, 366, 367, 368, 369, 270, 271, 272, 273, 274, 275, 276, 277, 278, 279, 280, 436, 437, 438, 202, 203, 204, 205, 321, 322, 323, 324, 281, 282, 283, 284, 439, 440, 441, 442, 1119, 1120, 1121, 1122, 1123, 1124, 1125, 1126, 1127, 1128, 1129, 1130, 1131, 1132, 1133, 1134, 1135] rfl (by decide +kernel)
set_option maxRecDepth 100000 in
theorem gL_law_X6_gold : GoodIn wsL_law (wsV RL 71 RX6 yX6_gold wsX6_gold) := goodIn_app (goodIn_of _ (by decide +kernel)) ggL_law_X6_gold
set_option maxRecDepth 100000 in
theorem ggL_law_X5_stands : GoodIn wsL_law wsX5_stands := goodIn_r _ [528, 15, 96, 210, 211, 212, 14, 213, 42, 101, 2, 102, 100, 103, 104, 105, 106, 29, 529, 530, 531, 532, 16, 297, 533, 492, 493, 494, 495, 34, 35, 36, 37, 496, 497, 498, 499, 38, 39, 40, 41, 44, 45, 500, 501, 502, 47, 503, 51, 52, 53, 54, 55, 56, 534, 535, 536, 537, 538, 539, 347, 348, 349, 540, 383, 384, 385, 386, 387, 388, 251, 389, 390, 391, 392, 393, 394, 342, 343, 344, 345, 346, 226, 227, 228, 229, 350, 351, 352, 353, 245, 246, 247, 248, 249, 250, 252, 222, 223, 224, 225, 395, 396, 397, 398, 399, 400, 401, 402, 230, 231, 232, 233, 234, 235, 236, 237, 238, 239, 240, 403, 404, 405, 406, 407, 314, 315, 316, 241, 242, 243, 244, 408, 409, 410, 411, 412, 413, 414, 415, 416, 417, 418, 419, 420, 421, 57, 58, 59, 60, 1111, 1112, 1113, 1114, 1115, 1116, 1117, 1118, 1136, 1137, 1138, 1139, 1140, 1141, 1142, 1143, 1144, 1145, 1146, 1156, 1157, 1158, 1159, 1160, 1161] rfl (by decide +kernel)
set_option maxRecDepth 100000 in
theorem gL_law_X5_stands : GoodIn wsL_law (wsV RL 72 RX5 yX5_stands wsX5_stands) := goodIn_app (goodIn_of _ (by decide +kernel)) ggL_law_X5_stands
set_option maxRecDepth 100000 in
theorem ggL_law_X6_stands : GoodIn wsL_law wsX6_stands := goodIn_r _ [544, 545, 258, 259, 260, 5, 261, 81, 124, 125, 126, 546, 547, 548, 549, 83, 510, 511, 512, 432, 433, 434, 435, 427, 362, 363, 364, 365, 266, 267, 268, 269, 358, 359, 360, 361, 285, 286, 287, 288, 289, 290, 291, 262, 263, 264, 265, 366, 367, 368, 369, 270, 271, 272, 273, 274, 275, 276, 277, 278, 279, 280, 436, 437, 438, 202, 203, 204, 205, 321, 322, 323, 324, 281, 282, 283, 284, 439, 440, 441, 442, 131, 132, 133, 134, 85, 135, 1119, 1120, 1121, 1122, 1123, 1124, 1125, 1126, 1127, 1128, 1129, 1130, 1131, 1132, 1133, 1134, 1135] rfl (by decide +kernel)
set_option maxRecDepth 100000 in
theorem gL_law_X6_stands : GoodIn wsL_law (wsV RL 75 RX6 yX6_stands wsX6_stands) := goodIn_app (goodIn_of _ (by decide +kernel)) ggL_law_X6_stands
set_option maxRecDepth 100000 in
theorem ggL_law_X5_wants : GoodIn wsL_law wsX5_wants := goodIn_r _ [553, 15, 96, 210, 211, 212, 14, 213, 42, 101, 2, 102, 153, 154, 155, 100, 103, 104, 105, 106, 29, 529, 530, 531, 532, 16, 297, 533, 492, 493, 494, 495, 34, 35, 36, 37, 496, 497, 498, 499, 38, 39, 40, 41, 44, 45, 500, 501, 502, 47, 503, 51, 52, 53, 54, 55, 56, 534, 535, 536, 537, 538, 539, 347, 348, 349, 540, 383, 384, 385, 386, 387, 388, 251, 389, 390, 391, 392, 393, 394, 342, 343, 344, 345, 346, 226, 227, 228, 229, 350, 351, 352, 353, 245, 246, 247, 248, 249, 250, 252, 222, 223, 224, 225, 395, 396, 397, 398, 399, 400, 401, 402, 230, 231, 232, 233, 234, 235, 236, 237, 238, 239, 240, 403, 404, 405, 406, 407, 314, 315, 316, 241, 242, 243, 244, 408, 409, 410, 411, 412, 413, 414, 415, 416, 417, 418, 419, 420, 421, 57, 58, 59, 60, 1111, 1112, 1113, 1114, 1115, 1116, 1117, 1118, 1136, 1137, 1138, 1139, 1140, 1141, 1142, 1143, 1144, 1145, 1146, 1156, 1157, 1158, 1159, 1160, 1161] rfl (by decide +kernel)
set_option maxRecDepth 100000 in
theorem gL_law_X5_wants : GoodIn wsL_law (wsV RL 76 RX5 yX5_wants wsX5_wants) := goodIn_app (goodIn_of _ (by decide +kernel)) ggL_law_X5_wants
set_option maxRecDepth 100000 in
theorem ggL_law_X6_wants : GoodIn wsL_law wsX6_wants := goodIn_r _ [557, 81, 83, 258, 259, 260, 5, 261, 124, 125, 126, 160, 161, 162, 163, 131, 132, 133, 134, 85, 135, 510, 511, 512, 366, 367, 368, 369, 266, 267, 268, 269, 432, 433, 434, 435, 427, 362, 363, 364, 365, 358, 359, 360, 361, 285, 286, 287, 288, 289, 290, 291, 262, 263, 264, 265, 270, 271, 272, 273, 274, 275, 276, 277, 278, 279, 280, 436, 437, 438, 202, 203, 204, 205, 321, 322, 323, 324, 281, 282, 283, 284, 439, 440, 441, 442, 1119, 1120, 1121, 1122, 1123, 1124, 1125, 1126, 1127, 1128, 1129, 1130, 1131, 1132, 1133, 1134, 1135] rfl (by decide +kernel)
set_option maxRecDepth 100000 in
theorem gL_law_X6_wants : GoodIn wsL_law (wsV RL 79 RX6 yX6_wants wsX6_wants) := goodIn_app (goodIn_of _ (by decide +kernel)) ggL_law_X6_wants
set_option maxRecDepth 100000 in
theorem ggL_law_X5_despair : GoodIn wsL_law wsX5_despair := goodIn_r _ [561, 15, 96, 210, 211, 212, 14, 213, 42, 101, 2, 102, 100, 103, 104, 105, 106, 29, 529, 530, 531, 532, 16, 297, 533, 492, 493, 494, 495, 34, 35, 36, 37, 496, 497, 498, 499, 38, 39, 40, 41, 44, 45, 500, 501, 502, 47, 503, 51, 52, 53, 54, 55, 56, 534, 535, 536, 537, 538, 539, 347, 348, 349, 540, 383, 384, 385, 386, 387, 388, 251, 389, 390, 391, 392, 393, 394, 342, 343, 344, 345, 346, 226, 227, 228, 229, 350, 351, 352, 353, 245, 246, 247, 248, 249, 250, 252, 222, 223, 224, 225, 395, 396, 397, 398, 399, 400, 401, 402, 230, 231, 232, 233, 234, 235, 236, 237, 238, 239, 240, 403, 404, 405, 406, 407, 314, 315, 316, 241, 242, 243, 244, 408, 409, 410, 411, 412, 413, 414, 415, 416, 417, 418, 419, 420, 421, 57, 58, 59, 60, 1111, 1112, 1113, 1114, 1115, 1116, 1117, 1118, 1136, 1137, 1138, 1139, 1140, 1141, 1142, 1143, 1144, 1145, 1146, 1156, 1157, 1158, 1159, 1160, 1161] rfl (by decide +kernel)
set_option maxRecDepth 100000 in
theorem gL_law_X5_despair : GoodIn wsL_law (wsV RL 80 RX5 yX5_despair wsX5_despair) := goodIn_app (goodIn_of _ (by decide +kernel)) ggL_law_X5_despair
set_option maxRecDepth 100000 in
theorem ggL_law_X6_despair : GoodIn wsL_law wsX6_despair := goodIn_r _ [565, 566, 258, 259, 260, 5, 261, 81, 124, 125, 126, 546, 547, 548, 549, 83, 510, 511, 512, 432, 433, 434, 435, 427, 362, 363, 364, 365, 266, 267, 268, 269, 358, 359, 360, 361, 285, 286, 287, 288, 289, 290, 291, 262, 263, 264, 265, 366, 367, 368, 369, 270, 271, 272, 273, 274, 275, 276, 277, 278, 279, 280, 436, 437, 438, 202, 203, 204, 205, 321, 322, 323, 324, 281, 282, 283, 284, 439, 440, 441, 442, 131, 132, 133, 134, 85, 135, 1119, 1120, 1121, 1122, 1123, 1124, 1125, 1126, 1127, 1128, 1129, 1130, 1131, 1132, 1133, 1134, 1135] rfl (by decide +kernel)
set_option maxRecDepth 100000 in
theorem gL_law_X6_despair : GoodIn wsL_law (wsV RL 83 RX6 yX6_despair wsX6_despair) := goodIn_app (goodIn_of _ (by decide +kernel)) ggL_law_X6_despair
set_option maxRecDepth 100000 in
theorem ggL_law_X5_cryFor : GoodIn wsL_law wsX5_cryFor := goodIn_r _ [570, 96, 16, 15, 149, 20, 377, 150, 151, 2, 152, 100, 101, 102, 103, 104, 105, 106, 29, 492, 493, 494, 14, 495, 34, 35, 36, 37, 496, 497, 498, 499, 38, 39, 40, 41, 42, 44, 45, 500, 501, 502, 47, 503, 51, 52, 53, 54, 55, 56, 378, 379, 380, 381, 382, 383, 384, 385, 386, 387, 388, 251, 389, 390, 391, 392, 393, 394, 342, 343, 344, 345, 346, 347, 348, 349, 226, 227, 228, 229, 350, 351, 352, 353, 245, 246, 247, 248, 249, 250, 252, 222, 223, 224, 225, 395, 396, 397, 398, 399, 400, 401, 402, 230, 231, 232, 233, 234, 235, 236, 237, 238, 239, 240, 403, 404, 405, 406, 407, 314, 315, 316, 241, 242, 243, 244, 408, 409, 410, 411, 412, 413, 414, 415, 416, 417, 418, 419, 420, 421, 57, 58, 59, 60, 571, 572, 573, 574, 1111, 1112, 1113, 1114, 1115, 1116, 1117, 1118, 1136, 1137, 1138, 1139, 1140, 1141, 1142, 1143, 1144, 1145, 1146, 1156, 1157, 1158, 1159, 1160, 1161] rfl (by decide +kernel)
set_option maxRecDepth 100000 in
theorem gL_law_X5_cryFor : GoodIn wsL_law (wsV RL 84 RX5 yX5_cryFor wsX5_cryFor) := goodIn_app (goodIn_of _ (by decide +kernel)) ggL_law_X5_cryFor
set_option maxRecDepth 100000 in
theorem ggL_law_X6_cryFor : GoodIn wsL_law wsX6_cryFor := goodIn_r _ [578, 118, 124, 125, 5, 126, 579, 580, 581, 426, 582, 583, 584, 585, 81, 83, 510, 511, 512, 521, 522, 523, 524, 428, 429, 430, 431, 432, 433, 434, 435, 427, 362, 363, 364, 365, 266, 267, 268, 269, 358, 359, 360, 361, 285, 286, 287, 288, 289, 290, 291, 262, 263, 264, 265, 366, 367, 368, 369, 270, 271, 272, 273, 274, 275, 276, 277, 278, 279, 280, 436, 437, 438, 202, 203, 204, 205, 321, 322, 323, 324, 281, 282, 283, 284, 439, 440, 441, 442, 131, 132, 133, 134, 85, 135, 1119, 1120, 1121, 1122, 1123, 1124, 1125, 1126, 1127, 1128, 1129, 1130, 1131, 1132, 1133, 1134, 1135] rfl (by decide +kernel)
set_option maxRecDepth 100000 in
theorem gL_law_X6_cryFor : GoodIn wsL_law (wsV RL 87 RX6 yX6_cryFor wsX6_cryFor) := goodIn_app (goodIn_of _ (by decide +kernel)) ggL_law_X6_cryFor
set_option maxRecDepth 100000 in
theorem ggL_law_X5_startFor : GoodIn wsL_law wsX5_startFor := goodIn_r _ [589, 96, 16, 15, 97, 20, 377, 100, 101, 2, 102, 103, 104, 105, 106, 29, 492, 493, 494, 14, 495, 34, 35, 36, 37, 496, 497, 498, 499, 38, 39, 40, 41, 42, 44, 45, 500, 501, 502, 47, 503, 51, 52, 53, 54, 55, 56, 378, 379, 380, 381, 382, 383, 384, 385, 386, 387, 388, 251, 389, 390, 391, 392, 393, 394, 342, 343, 344, 345, 346, 347, 348, 349, 226, 227, 228, 229, 350, 351, 352, 353, 245, 246, 247, 248, 249, 250, 252, 222, 223, 224, 225, 395, 396, 397, 398, 399, 400, 401, 402, 230, 231, 232, 233, 234, 235, 236, 237, 238, 239, 240, 403, 404, 405, 406, 407, 314, 315, 316, 241, 242, 243, 244, 408, 409, 410, 411, 412, 413, 414, 415, 416, 417, 418, 419, 420, 421, 57, 58, 59, 60, 571, 572, 573, 574, 1111, 1112, 1113, 1114, 1115, 1116, 1117, 1118, 1136, 1137, 1138, 1139, 1140, 1141, 1142, 1143, 1144, 1145, 1146, 1156, 1157, 1158, 1159, 1160, 1161] rfl (by decide +kernel)
set_option maxRecDepth 100000 in
theorem gL_law_X5_startFor : GoodIn wsL_law (wsV RL 88 RX5 yX5_startFor wsX5_startFor) := goodIn_app (goodIn_of _ (by decide +kernel)) ggL_law_X5_startFor
set_option maxRecDepth 100000 in
theorem ggL_law_X6_startFor : GoodIn wsL_law wsX6_startFor := goodIn_r _ [593, 579, 580, 5, 581, 426, 124, 125, 126, 582, 583, 584, 585, 81, 83, 510, 511, 512, 521, 522, 523, 524, 428, 429, 430, 431, 432, 433, 434, 435, 427, 362, 363, 364, 365, 266, 267, 268, 269, 358, 359, 360, 361, 285, 286, 287, 288, 289, 290, 291, 262, 263, 264, 265, 366, 367, 368, 369, 270, 271, 272, 273, 274, 275, 276, 277, 278, 279, 280, 436, 437, 438, 202, 203, 204, 205, 321, 322, 323, 324, 281, 282, 283, 284, 439, 440, 441, 442, 131, 132, 133, 134, 85, 135, 1119, 1120, 1121, 1122, 1123, 1124, 1125, 1126, 1127, 1128, 1129, 1130, 1131, 1132, 1133, 1134, 1135] rfl (by decide +kernel)
set_option maxRecDepth 100000 in
theorem gL_law_X6_startFor : GoodIn wsL_law (wsV RL 91 RX6 yX6_startFor wsX6_startFor) := goodIn_app (goodIn_of _ (by decide +kernel)) ggL_law_X6_startFor
set_option maxRecDepth 100000 in
theorem ggL_law_X5_loudFor : GoodIn wsL_law wsX5_loudFor := goodIn_r _ [597, 375, 96, 16, 15, 99, 377, 533, 100, 101, 2, 102, 103, 104, 105, 106, 29, 492, 493, 494, 14, 495, 34, 35, 36, 37, 496, 497, 498, 499, 38, 39, 40, 41, 42, 44, 45, 500, 501, 502, 47, 503, 51, 52, 53, 54, 55, 56, 378, 379, 380, 381, 382, 383, 384, 385, 386, 387, 388, 251, 389, 390, 391, 392, 393, 394, 342, 343, 344, 345, 346, 347, 348, 349, 226, 227, 228, 229, 350, 351, 352, 353, 245, 246, 247, 248, 249, 250, 252, 222, 223, 224, 225, 395, 396, 397, 398, 399, 400, 401, 402, 230, 231, 232, 233, 234, 235, 236, 237, 238, 239, 240, 403, 404, 405, 406, 407, 314, 315, 316, 241, 242, 243, 244, 408, 409, 410, 411, 412, 413, 414, 415, 416, 417, 418, 419, 420, 421, 57, 58, 59, 60, 1111, 1112, 1113, 1114, 1115, 1116, 1117, 1118, 1136, 1137, 1138, 1139, 1140, 1141, 1142, 1143, 1144, 1145, 1146, 1156, 1157, 1158, 1159, 1160, 1161] rfl (by decide +kernel)
set_option maxRecDepth 100000 in
theorem gL_law_X5_loudFor : GoodIn wsL_law (wsV RL 92 RX5 yX5_loudFor wsX5_loudFor) := goodIn_app (goodIn_of _ (by decide +kernel)) ggL_law_X5_loudFor
set_option maxRecDepth 100000 in
theorem ggL_law_X6_loudFor : GoodIn wsL_law wsX6_loudFor := goodIn_r _ [601, 602, 81, 83, 124, 125, 5, 126, 579, 580, 581, 426, 131, 132, 133, 134, 85, 135, 510, 511, 512, 521, 522, 523, 524, 428, 429, 430, 431, 432, 433, 434, 435, 427, 362, 363, 364, 365, 266, 267, 268, 269, 358, 359, 360, 361, 285, 286, 287, 288, 289, 290, 291, 262, 263, 264, 265, 366, 367, 368, 369, 270, 271, 272, 273, 274, 275, 276, 277, 278, 279, 280, 436, 437, 438, 202, 203, 204, 205, 321, 322, 323, 324, 281, 282, 283, 284, 439, 440, 441, 442, 1119, 1120, 1121, 1122, 1123, 1124, 1125, 1126, 1127, 1128, 1129, 1130, 1131, 1132, 1133, 1134, 1135] rfl (by decide +kernel)
set_option maxRecDepth 100000 in
theorem gL_law_X6_loudFor : GoodIn wsL_law (wsV RL 95 RX6 yX6_loudFor wsX6_loudFor) := goodIn_app (goodIn_of _ (by decide +kernel)) ggL_law_X6_loudFor
set_option maxRecDepth 100000 in
theorem ggL_law_X5_kindFor : GoodIn wsL_law wsX5_kindFor := goodIn_r _ [606, 15, 96, 16, 297, 607, 20, 537, 210, 211, 212, 14, 213, 42, 101, 2, 102, 100, 103, 104, 105, 106, 29, 492, 493, 494, 495, 34, 35, 36, 37, 496, 497, 498, 499, 38, 39, 40, 41, 44, 45, 500, 501, 502, 47, 503, 51, 52, 53, 54, 55, 56, 378, 379, 380, 381, 382, 383, 384, 385, 386, 387, 388, 251, 389, 390, 391, 392, 393, 394, 342, 343, 344, 345, 346, 347, 348, 349, 226, 227, 228, 229, 350, 351, 352, 353, 245, 246, 247, 248, 249, 250, 252, 222, 223, 224, 225, 395, 396, 397, 398, 399, 400, 401, 402, 230, 231, 232, 233, 234, 235, 236, 237, 238, 239, 240, 403, 404, 405, 406, 407, 314, 315, 316, 241, 242, 243, 244, 408, 409, 410, 411, 412, 413, 414, 415, 416, 417, 418, 419, 420, 421, 57, 58, 59, 60, 571, 572, 573, 574, 1111, 1112, 1113, 1114, 1115, 1116, 1117, 1118, 1136, 1137, 1138, 1139, 1140, 1141, 1142, 1143, 1144, 1145, 1146, 1156, 1157, 1158, 1159, 1160, 1161] rfl (by decide +kernel)
set_option maxRecDepth 100000 in
theorem gL_law_X5_kindFor : GoodIn wsL_law (wsV RL 96 RX5 yX5_kindFor wsX5_kindFor) := goodIn_app (goodIn_of _ (by decide +kernel)) ggL_law_X5_kindFor
set_option maxRecDepth 100000 in
theorem ggL_law_X6_kindFor : GoodIn wsL_law wsX6_kindFor := goodIn_r _ [611, 258, 259, 260, 5, 261, 81, 124, 125, 126, 579, 580, 581, 426, 582, 583, 584, 585, 83, 510, 511, 512, 521, 522, 523, 524, 428, 429, 430, 431, 432, 433, 434, 435, 427, 362, 363, 364, 365, 266, 267, 268, 269, 358, 359, 360, 361, 285, 286, 287, 288, 289, 290, 291, 262, 263, 264, 265, 366, 367, 368, 369, 270, 271, 272, 273, 274, 275, 276, 277, 278, 279, 280, 436, 437, 438, 202, 203, 204, 205, 321, 322, 323, 324, 281, 282, 283, 284, 439, 440, 441, 442, 131, 132, 133, 134, 85, 135, 1119, 1120, 1121, 1122, 1123, 1124, 1125, 1126, 1127, 1128, 1129, 1130, 1131, 1132, 1133, 1134, 1135] rfl (by decide +kernel)
set_option maxRecDepth 100000 in
theorem gL_law_X6_kindFor : GoodIn wsL_law (wsV RL 99 RX6 yX6_kindFor wsX6_kindFor) := goodIn_app (goodIn_of _ (by decide +kernel)) ggL_law_X6_kindFor
set_option maxRecDepth 100000 in
theorem ggL_law_X5_empty : GoodIn wsL_law wsX5_empty := goodIn_r _ [615, 96, 15, 616, 533, 100, 101, 2, 102, 103, 104, 105, 106, 29, 447, 448, 449, 14, 450, 42, 617, 235, 236, 237, 238, 239, 240, 618, 619, 620, 621, 16, 377, 492, 493, 494, 495, 34, 35, 36, 37, 496, 497, 498, 499, 38, 39, 40, 41, 44, 45, 500, 501, 502, 47, 503, 51, 52, 53, 54, 55, 56, 622, 623, 624, 625, 394, 540, 383, 384, 385, 386, 387, 388, 251, 389, 390, 391, 392, 393, 342, 343, 344, 345, 346, 347, 348, 349, 226, 227, 228, 229, 350, 351, 352, 353, 245, 246, 247, 248, 249, 250, 252, 222, 223, 224, 225, 395, 396, 397, 398, 399, 400, 401, 402, 230, 231, 232, 233, 234, 403, 404, 405, 406, 407, 314, 315, 316, 241, 242, 243, 244, 408, 409, 410, 411, 412, 413, 414, 415, 416, 417, 418, 419, 420, 421, 57, 58, 59, 60, 1111, 1112, 1113, 1114, 1115, 1116, 1117, 1118, 1136, 1137, 1138, 1139, 1140, 1141, 1142, 1143, 1144, 1145, 1146, 1156, 1157, 1158, 1159, 1160, 1161] rfl (by decide +kernel)
set_option maxRecDepth 100000 in
theorem gL_law_X5_empty : GoodIn wsL_law (wsV RL 100 RX5 yX5_empty wsX5_empty) := goodIn_app (goodIn_of _ (by decide +kernel)) ggL_law_X5_empty
set_option maxRecDepth 100000 in
theorem ggL_law_X6_empty : GoodIn wsL_law wsX6_empty := goodIn_r _ [629, 630, 81, 83, 124, 125, 5, 126, 131, 132, 133, 134, 85, 135, 510, 511, 512, 278, 279, 280, 266, 267, 268, 269, 202, 203, 204, 205, 521, 522, 523, 524, 428, 429, 430, 431, 432, 433, 434, 435, 427, 362, 363, 364, 365, 358, 359, 360, 361, 285, 286, 287, 288, 289, 290, 291, 262, 263, 264, 265, 366, 367, 368, 369, 270, 271, 272, 273, 274, 275, 276, 277, 436, 437, 438, 321, 322, 323, 324, 281, 282, 283, 284, 439, 440, 441, 442, 1119, 1120, 1121, 1122, 1123, 1124, 1125, 1126, 1127, 1128, 1129, 1130, 1131, 1132, 1133, 1134, 1135] rfl (by decide +kernel)
set_option maxRecDepth 100000 in
theorem gL_law_X6_empty : GoodIn wsL_law (wsV RL 103 RX6 yX6_empty wsX6_empty) := goodIn_app (goodIn_of _ (by decide +kernel)) ggL_law_X6_empty
set_option maxRecDepth 100000 in
theorem ggL_law_X5_cover : GoodIn wsL_law wsX5_cover := goodIn_r _ [634, 96, 15, 616, 533, 100, 101, 2, 102, 103, 104, 105, 106, 29, 447, 448, 449, 14, 450, 42, 617, 235, 236, 237, 238, 239, 240, 451, 452, 453, 454, 44, 455, 1111, 1112, 1113, 1114, 1115, 1116, 1117, 1118, 1136, 1137, 1138, 1139, 1140, 1141, 1142, 1143, 1144, 1145, 1146, 1156, 1157, 1158, 1159, 1160, 1161] rfl (by decide +kernel)
set_option maxRecDepth 100000 in
theorem gL_law_X5_cover : GoodIn wsL_law (wsV RL 104 RX5 yX5_cover wsX5_cover) := goodIn_app (goodIn_of _ (by decide +kernel)) ggL_law_X5_cover
set_option maxRecDepth 100000 in
theorem ggL_law_X6_cover : GoodIn wsL_law wsX6_cover := goodIn_r _ [638, 81, 639, 640, 5, 641, 642, 124, 125, 126, 131, 132, 133, 134, 85, 135, 266, 267, 268, 269, 278, 279, 280, 1119, 1120, 1121, 1122, 1123, 1124, 1125, 1126, 1127, 1128, 1129, 1130, 1131, 1132, 1133, 1134, 1135] rfl (by decide +kernel)
set_option maxRecDepth 100000 in
theorem gL_law_X6_cover : GoodIn wsL_law (wsV RL 107 RX6 yX6_cover wsX6_cover) := goodIn_app (goodIn_of _ (by decide +kernel)) ggL_law_X6_cover
set_option maxRecDepth 100000 in
theorem ggL_law_X5_fits : GoodIn wsL_law wsX5_fits := goodIn_r _ [646, 16, 15, 297, 647, 28, 648, 649, 650, 2, 651, 96, 652, 653, 654, 655, 656, 657, 658, 659, 100, 101, 102, 660, 661, 662, 27, 663, 74, 210, 211, 212, 14, 213, 42, 103, 104, 105, 106, 29, 492, 493, 494, 495, 34, 35, 36, 37, 496, 497, 498, 499, 38, 39, 40, 41, 44, 45, 500, 501, 502, 47, 503, 51, 52, 53, 54, 55, 56, 664, 665, 666, 667, 668, 669, 537, 540, 383, 384, 385, 386, 387, 388, 251, 389, 390, 391, 392, 393, 394, 342, 343, 344, 345, 346, 347, 348, 349, 226, 227, 228, 229, 350, 351, 352, 353, 245, 246, 247, 248, 249, 250, 252, 222, 223, 224, 225, 395, 396, 397, 398, 399, 400, 401, 402, 230, 231, 232, 233, 234, 235, 236, 237, 238, 239, 240, 403, 404, 405, 406, 407, 314, 315, 316, 241, 242, 243, 244, 408, 409, 410, 411, 412, 413, 414, 415, 416, 417, 418, 419, 420, 421, 57, 58, 59, 60, 1111, 1112, 1113, 1114, 1115, 1116, 1117, 1118, 1136, 1137, 1138, 1139, 1140, 1141, 1142, 1143, 1144, 1145, 1146, 1156, 1157, 1158, 1159, 1160, 1161, 1153, 1154, 1155] rfl (by decide +kernel)
set_option maxRecDepth 100000 in
theorem gL_law_X5_fits : GoodIn wsL_law (wsV RL 108 RX5 yX5_fits wsX5_fits) := goodIn_app (goodIn_of _ (by decide +kernel)) ggL_law_X5_fits
set_option maxRecDepth 100000 in
theorem ggL_law_X6_fits : GoodIn wsL_law wsX6_fits := goodIn_r _ [673, 81, 83, 674, 675, 676, 5, 677, 678, 679, 680, 681, 87, 682, 683, 684, 685, 124, 125, 126, 258, 259, 260, 261, 131, 132, 133, 134, 85, 135, 510, 511, 512, 202, 203, 204, 205, 686, 687, 688, 689, 88, 89, 266, 267, 268, 269, 432, 433, 434, 435, 427, 362, 363, 364, 365, 358, 359, 360, 361, 285, 286, 287, 288, 289, 290, 291, 262, 263, 264, 265, 366, 367, 368, 369, 270, 271, 272, 273, 274, 275, 276, 277, 278, 279, 280, 436, 437, 438, 321, 322, 323, 324, 281, 282, 283, 284, 439, 440, 441, 442, 1119, 1120, 1121, 1122, 1123, 1124, 1125, 1126, 1127, 1128, 1129, 1130, 1131, 1132, 1133, 1134, 1135] rfl (by decide +kernel)
set_option maxRecDepth 100000 in
theorem gL_law_X6_fits : GoodIn wsL_law (wsV RL 111 RX6 yX6_fits wsX6_fits) := goodIn_app (goodIn_of _ (by decide +kernel)) ggL_law_X6_fits
set_option maxRecDepth 100000 in
theorem ggL_law_X5_kinds : GoodIn wsL_law wsX5_kinds := goodIn_r _ [693, 16, 15, 297, 607, 28, 648, 649, 650, 2, 651, 96, 652, 653, 654, 655, 656, 657, 658, 659, 100, 101, 102, 660, 661, 662, 27, 663, 74, 210, 211, 212, 14, 213, 42, 103, 104, 105, 106, 29, 492, 493, 494, 495, 34, 35, 36, 37, 496, 497, 498, 499, 38, 39, 40, 41, 44, 45, 500, 501, 502, 47, 503, 51, 52, 53, 54, 55, 56, 664, 665, 666, 667, 668, 669, 537, 540, 383, 384, 385, 386, 387, 388, 251, 389, 390, 391, 392, 393, 394, 342, 343, 344, 345, 346, 347, 348, 349, 226, 227, 228, 229, 350, 351, 352, 353, 245, 246, 247, 248, 249, 250, 252, 222, 223, 224, 225, 395, 396, 397, 398, 399, 400, 401, 402, 230, 231, 232, 233, 234, 235, 236, 237, 238, 239, 240, 403, 404, 405, 406, 407, 314, 315, 316, 241, 242, 243, 244, 408, 409, 410, 411, 412, 413, 414, 415, 416, 417, 418, 419, 420, 421, 57, 58, 59, 60, 1111, 1112, 1113, 1114, 1115, 1116, 1117, 1118, 1136, 1137, 1138, 1139, 1140, 1141, 1142, 1143, 1144, 1145, 1146, 1156, 1157, 1158, 1159, 1160, 1161, 1153, 1154, 1155] rfl (by decide +kernel)
set_option maxRecDepth 100000 in
theorem gL_law_X5_kinds : GoodIn wsL_law (wsV RL 112 RX5 yX5_kinds wsX5_kinds) := goodIn_app (goodIn_of _ (by decide +kernel)) ggL_law_X5_kinds
set_option maxRecDepth 100000 in
theorem ggL_law_X6_kinds : GoodIn wsL_law wsX6_kinds := goodIn_r _ [697, 81, 83, 674, 675, 676, 5, 677, 678, 679, 680, 681, 87, 682, 683, 684, 685, 124, 125, 126, 258, 259, 260, 261, 131, 132, 133, 134, 85, 135, 510, 511, 512, 202, 203, 204, 205, 686, 687, 688, 689, 88, 89, 266, 267, 268, 269, 432, 433, 434, 435, 427, 362, 363, 364, 365, 358, 359, 360, 361, 285, 286, 287, 288, 289, 290, 291, 262, 263, 264, 265, 366, 367, 368, 369, 270, 271, 272, 273, 274, 275, 276, 277, 278, 279, 280, 436, 437, 438, 321, 322, 323, 324, 281, 282, 283, 284, 439, 440, 441, 442, 1119, 1120, 1121, 1122, 1123, 1124, 1125, 1126, 1127, 1128, 1129, 1130, 1131, 1132, 1133, 1134, 1135] rfl (by decide +kernel)
set_option maxRecDepth 100000 in
theorem gL_law_X6_kinds : GoodIn wsL_law (wsV RL 115 RX6 yX6_kinds wsX6_kinds) := goodIn_app (goodIn_of _ (by decide +kernel)) ggL_law_X6_kinds
set_option maxRecDepth 100000 in
theorem ggL_law_X5_hawk : GoodIn wsL_law wsX5_hawk := goodIn_r _ [701, 96, 15, 374, 375, 376, 149, 99, 377, 100, 101, 2, 102, 103, 104, 105, 106, 29, 702, 703, 704, 14, 705, 41, 706, 540, 383, 384, 385, 34, 35, 37, 40, 386, 387, 388, 251, 389, 390, 391, 392, 393, 42, 44, 36, 38, 394, 342, 343, 344, 47, 345, 56, 54, 346, 347, 348, 349, 53, 226, 227, 228, 229, 51, 55, 350, 351, 352, 353, 245, 246, 247, 248, 52, 249, 250, 252, 222, 223, 224, 225, 395, 396, 397, 398, 399, 400, 401, 402, 230, 231, 232, 233, 234, 235, 236, 237, 238, 239, 240, 403, 404, 405, 406, 407, 314, 315, 316, 241, 242, 243, 244, 408, 409, 410, 411, 39, 412, 413, 414, 415, 416, 417, 418, 419, 420, 421, 57, 58, 59, 60, 1111, 1112, 1113, 1114, 1115, 1116, 1117, 1118, 1136, 1137, 1138, 1139, 1140, 1141, 1142, 1143, 1144, 1145, 1146, 1156, 1157, 1158, 1159, 1160, 1161] rfl (by decide +kernel)
set_option maxRecDepth 100000 in
theorem gL_law_X5_hawk : GoodIn wsL_law (wsV RL 116 RX5 yX5_hawk wsX5_hawk) := goodIn_app (goodIn_of _ (by decide +kernel)) ggL_law_X5_hawk
set_option maxRecDepth 100000 in
theorem ggL_law_X6_hawk : GoodIn wsL_law wsX6_hawk := goodIn_r _ [710, 630, 81, 427, 124, 125, 5, 126, 131, 132, 133, 134, 85, 135, 711, 712, 713, 714, 715, 432, 433, 434, 435, 362, 363, 364, 365, 266, 267, 268, 269, 358, 359, 360, 361, 285, 286, 287, 288, 289, 290, 291, 262, 263, 264, 265, 366, 367, 368, 369, 270, 271, 272, 273, 274, 275, 276, 277, 278, 279, 280, 436, 437, 438, 202, 203, 204, 205, 321, 322, 323, 324, 281, 282, 283, 284, 439, 440, 441, 442, 1119, 1120, 1121, 1122, 1123, 1124, 1125, 1126, 1127, 1128, 1129, 1130, 1131, 1132, 1133, 1134, 1135] rfl (by decide +kernel)
set_option maxRecDepth 100000 in
theorem gL_law_X6_hawk : GoodIn wsL_law (wsV RL 119 RX6 yX6_hawk wsX6_hawk) := goodIn_app (goodIn_of _ (by decide +kernel)) ggL_law_X6_hawk
set_option maxRecDepth 100000 in
theorem ggL_law_X5_odds : GoodIn wsL_law wsX5_odds := goodIn_r _ [719, 15, 96, 297, 647, 720, 401, 251, 402, 210, 211, 212, 14, 213, 42, 101, 2, 102, 100, 103, 104, 105, 106, 29, 617, 235, 236, 237, 238, 239, 240, 721, 722, 723, 724, 725, 726, 1111, 1112, 1113, 1114, 1115, 1116, 1117, 1118, 1136, 1137, 1138, 1139, 1140, 1141, 1142, 1143, 1144, 1145, 1146, 1156, 1157, 1158, 1159, 1160, 1161] rfl (by decide +kernel)
set_option maxRecDepth 100000 in
theorem gL_law_X5_odds : GoodIn wsL_law (wsV RL 120 RX5 yX5_odds wsX5_odds) := goodIn_app (goodIn_of _ (by decide +kernel)) ggL_law_X5_odds
set_option maxRecDepth 100000 in
theorem ggL_law_X6_odds : GoodIn wsL_law wsX6_odds := goodIn_r _ [730, 731, 258, 259, 260, 5, 261, 81, 124, 125, 126, 131, 132, 133, 134, 85, 135, 266, 267, 268, 269, 278, 279, 280, 732, 733, 734, 1119, 1120, 1121, 1122, 1123, 1124, 1125, 1126, 1127, 1128, 1129, 1130, 1131, 1132, 1133, 1134, 1135] rfl (by decide +kernel)
set_option maxRecDepth 100000 in
theorem gL_law_X6_odds : GoodIn wsL_law (wsV RL 124 RX6 yX6_odds wsX6_odds) := goodIn_app (goodIn_of _ (by decide +kernel)) ggL_law_X6_odds
set_option maxRecDepth 100000 in
theorem ggL_law_X5_seed : GoodIn wsL_law wsX5_seed := goodIn_r _ [738, 15, 739, 1111, 1112, 1113, 1114, 1115, 1116, 1117, 1118, 1136, 1137, 1138, 1139, 1140, 1141, 1142, 1143, 1144, 1145, 1146] rfl (by decide +kernel)
set_option maxRecDepth 100000 in
theorem gL_law_X5_seed : GoodIn wsL_law (wsV RL 125 RX5 yX5_seed wsX5_seed) := goodIn_app (goodIn_of _ (by decide +kernel)) ggL_law_X5_seed
set_option maxRecDepth 100000 in
theorem ggL_law_X6_seed : GoodIn wsL_law wsX6_seed := goodIn_r _ [743, 127, 128, 129, 5, 130, 81, 1119, 1120, 1121, 1122, 1123, 1124, 1125, 1126, 1127, 1128, 1129, 1130, 1131, 1132, 1133, 1134, 1135] rfl (by decide +kernel)
set_option maxRecDepth 100000 in
theorem gL_law_X6_seed : GoodIn wsL_law (wsV RL 128 RX6 yX6_seed wsX6_seed) := goodIn_app (goodIn_of _ (by decide +kernel)) ggL_law_X6_seed
set_option maxRecDepth 100000 in
theorem ggL_law_X5_feed : GoodIn wsL_law wsX5_feed := goodIn_r _ [747, 96, 24, 748, 176, 100, 101, 2, 102, 103, 104, 105, 106, 29, 749, 750, 751, 23, 752, 66, 65, 1111, 1112, 1113, 1114, 1115, 1116, 1117, 1118, 1147, 1148, 1149, 1150, 1151, 1152] rfl (by decide +kernel)
set_option maxRecDepth 100000 in
theorem gL_law_X5_feed : GoodIn wsL_law (wsV RL 129 RX5 yX5_feed wsX5_feed) := goodIn_app (goodIn_of _ (by decide +kernel)) ggL_law_X5_feed
set_option maxRecDepth 100000 in
theorem ggL_law_X6_feed : GoodIn wsL_law wsX6_feed := goodIn_r _ [756, 508, 757, 86, 124, 125, 5, 126, 131, 132, 133, 134, 85, 135, 1119, 1120, 1121, 1122, 1123, 1124, 1125, 1126, 1127, 1128, 1129, 1130, 1131, 1132, 1133, 1134, 1135] rfl (by decide +kernel)
set_option maxRecDepth 100000 in
theorem gL_law_X6_feed : GoodIn wsL_law (wsV RL 132 RX6 yX6_feed wsX6_feed) := goodIn_app (goodIn_of _ (by decide +kernel)) ggL_law_X6_feed
set_option maxRecDepth 100000 in
theorem ggL_law_X5_wipe : GoodIn wsL_law wsX5_wipe := goodIn_r _ [761, 24, 748, 762, 763, 764, 23, 765, 66, 1111, 1112, 1113, 1114, 1115, 1116, 1117, 1118, 1147, 1148, 1149, 1150, 1151, 1152] rfl (by decide +kernel)
set_option maxRecDepth 100000 in
theorem gL_law_X5_wipe : GoodIn wsL_law (wsV RL 133 RX5 yX5_wipe wsX5_wipe) := goodIn_app (goodIn_of _ (by decide +kernel)) ggL_law_X5_wipe
set_option maxRecDepth 100000 in
theorem ggL_law_X6_wipe : GoodIn wsL_law wsX6_wipe := goodIn_r _ [769, 757, 1119, 1120, 1121, 1122, 1123, 1124, 1125, 1126, 1127, 1128, 1129, 1130, 1131, 1132, 1133, 1134, 1135] rfl (by decide +kernel)
set_option maxRecDepth 100000 in
theorem gL_law_X6_wipe : GoodIn wsL_law (wsV RL 137 RX6 yX6_wipe wsX6_wipe) := goodIn_app (goodIn_of _ (by decide +kernel)) ggL_law_X6_wipe
set_option maxRecDepth 100000 in
theorem ggL_law_X5_text : GoodIn wsL_law wsX5_text := goodIn_r _ [773, 16, 15, 774, 775, 776, 24, 777, 778, 492, 493, 494, 14, 495, 34, 35, 36, 37, 496, 497, 498, 499, 38, 39, 40, 41, 42, 44, 45, 500, 501, 502, 47, 503, 51, 52, 53, 54, 55, 56, 779, 780, 781, 782, 10, 11, 783, 784, 785, 786, 787, 788, 789, 790, 791, 792, 793, 794, 23, 795, 70, 796, 797, 798, 799, 66, 65, 68, 69, 67, 800, 388, 251, 389, 801, 802, 803, 804, 805, 806, 807, 808, 809, 810, 811, 812, 813, 814, 815, 816, 817, 818, 819, 820, 821, 822, 823, 824, 825, 826, 827, 828, 829, 830, 831, 832, 833, 834, 835, 836, 837, 838, 839, 840, 841, 842, 843, 844, 845, 846, 847, 848, 849, 850, 851, 852, 853, 854, 855, 856, 857, 858, 859, 860, 861, 862, 863, 864, 865, 866, 867, 868, 869, 870, 871, 872, 873, 874, 875, 876, 877, 878, 879, 880, 881, 882, 883, 884, 885, 886, 887, 888, 889, 890, 891, 892, 893, 894, 895, 185, 186, 187, 188, 181, 182, 183, 189, 190, 191, 192, 762, 763, 764, 765, 1111, 1112, 1113, 1114, 1115, 1116, 1117, 1118, 1162, 1163, 1164, 1165, 1147, 1148, 1149, 1150, 1151, 1152, 1136, 1137, 1138, 1139, 1140, 1141, 1142, 1143, 1144, 1145, 1146, 1156, 1157, 1158, 1159, 1160, 1161] rfl (by decide +kernel)
set_option maxRecDepth 100000 in
theorem gL_law_X5_text : GoodIn wsL_law (wsV RL 138 RX5 yX5_text wsX5_text) := goodIn_app (goodIn_of _ (by decide +kernel)) ggL_law_X5_text
set_option maxRecDepth 100000 in
theorem ggL_law_X6_text : GoodIn wsL_law wsX6_text := goodIn_r _ [899, 81, 82, 757, 900, 510, 511, 5, 512, 901, 902, 903, 904, 905, 906, 907, 908, 909, 910, 911, 912, 913, 914, 545, 257, 915, 916, 917, 918, 919, 86, 920, 921, 922, 923, 924, 925, 926, 927, 928, 929, 930, 931, 932, 933, 934, 935, 936, 937, 938, 939, 940, 941, 942, 943, 944, 945, 946, 947, 948, 949, 950, 951, 952, 953, 954, 955, 956, 957, 958, 198, 199, 200, 201, 202, 203, 204, 205, 959, 960, 961, 962, 963, 964, 965, 966, 967, 968, 969, 970, 971, 972, 973, 974, 975, 976, 1119, 1120, 1121, 1122, 1123, 1124, 1125, 1126, 1127, 1128, 1129, 1130, 1131, 1132, 1133, 1134, 1135] rfl (by decide +kernel)
set_option maxRecDepth 100000 in
theorem gL_law_X6_text : GoodIn wsL_law (wsV RL 141 RX6 yX6_text wsX6_text) := goodIn_app (goodIn_of _ (by decide +kernel)) ggL_law_X6_text
set_option maxRecDepth 100000 in
theorem ggL_law_X5_hold : GoodIn wsL_law wsX5_hold := goodIn_r _ [980, 15, 96, 981, 982, 983, 2, 984, 100, 101, 102, 210, 211, 212, 14, 213, 42, 103, 104, 105, 106, 29, 1111, 1112, 1113, 1114, 1115, 1116, 1117, 1118, 1136, 1137, 1138, 1139, 1140, 1141, 1142, 1143, 1144, 1145, 1146] rfl (by decide +kernel)
set_option maxRecDepth 100000 in
theorem gL_law_X5_hold : GoodIn wsL_law (wsV RL 142 RX5 yX5_hold wsX5_hold) := goodIn_app (goodIn_of _ (by decide +kernel)) ggL_law_X5_hold
set_option maxRecDepth 100000 in
theorem ggL_law_X6_hold : GoodIn wsL_law wsX6_hold := goodIn_r _ [988, 119, 989, 81, 124, 125, 5, 126, 131, 132, 133, 134, 85, 135, 1119, 1120, 1121, 1122, 1123, 1124, 1125, 1126, 1127, 1128, 1129, 1130, 1131, 1132, 1133, 1134, 1135] rfl (by decide +kernel)
set_option maxRecDepth 100000 in
theorem gL_law_X6_hold : GoodIn wsL_law (wsV RL 145 RX6 yX6_hold wsX6_hold) := goodIn_app (goodIn_of _ (by decide +kernel)) ggL_law_X6_hold
set_option maxRecDepth 100000 in
theorem ggL_law_X5_as : GoodIn wsL_law wsX5_as := goodIn_r _ [993, 96, 15, 981, 656, 297, 994, 982, 983, 2, 984, 100, 101, 102, 177, 178, 179, 103, 104, 105, 106, 29, 210, 211, 212, 14, 213, 42, 995, 996, 997, 47, 998, 51, 1111, 1112, 1113, 1114, 1115, 1116, 1117, 1118, 1136, 1137, 1138, 1139, 1140, 1141, 1142, 1143, 1144, 1145, 1146, 1156, 1157, 1158, 1159, 1160, 1161] rfl (by decide +kernel)
set_option maxRecDepth 100000 in
theorem gL_law_X5_as : GoodIn wsL_law (wsV RL 146 RX5 yX5_as wsX5_as) := goodIn_app (goodIn_of _ (by decide +kernel)) ggL_law_X5_as
set_option maxRecDepth 100000 in
theorem ggL_law_X6_as : GoodIn wsL_law wsX6_as := goodIn_r _ [1002, 119, 197, 81, 124, 125, 5, 126, 131, 132, 133, 134, 85, 135, 266, 267, 268, 269, 1003, 1004, 1005, 1119, 1120, 1121, 1122, 1123, 1124, 1125, 1126, 1127, 1128, 1129, 1130, 1131, 1132, 1133, 1134, 1135] rfl (by decide +kernel)
set_option maxRecDepth 100000 in
theorem gL_law_X6_as : GoodIn wsL_law (wsV RL 149 RX6 yX6_as wsX6_as) := goodIn_app (goodIn_of _ (by decide +kernel)) ggL_law_X6_as
set_option maxRecDepth 100000 in
theorem ggL_law_X5_sheet : GoodIn wsL_law wsX5_sheet := goodIn_r _ [1009, 96, 1010, 28, 668, 657, 658, 2, 659, 100, 101, 102, 103, 104, 105, 106, 29, 1011, 1012, 1013, 27, 1014, 74, 75, 76, 1015, 58, 59, 60, 1111, 1112, 1113, 1114, 1115, 1116, 1117, 1118, 1153, 1154, 1155] rfl (by decide +kernel)
set_option maxRecDepth 100000 in
theorem gL_law_X5_sheet : GoodIn wsL_law (wsV RL 150 RX5 yX5_sheet wsX5_sheet) := goodIn_app (goodIn_of _ (by decide +kernel)) ggL_law_X5_sheet
set_option maxRecDepth 100000 in
theorem ggL_law_X6_sheet : GoodIn wsL_law wsX6_sheet := goodIn_r _ [1019, 87, 88, 89, 682, 683, 5, 684, 685, 124, 125, 126, 131, 132, 133, 134, 85, 135, 1119, 1120, 1121, 1122, 1123, 1124, 1125, 1126, 1127, 1128, 1129, 1130, 1131, 1132, 1133, 1134, 1135] rfl (by decide +kernel)
set_option maxRecDepth 100000 in
theorem gL_law_X6_sheet : GoodIn wsL_law (wsV RL 153 RX6 yX6_sheet wsX6_sheet) := goodIn_app (goodIn_of _ (by decide +kernel)) ggL_law_X6_sheet
set_option maxRecDepth 100000 in
theorem ggL_law_X5_write : GoodIn wsL_law wsX5_write := goodIn_r _ [1023, 28, 668, 96, 652, 653, 654, 2, 655, 656, 657, 658, 659, 100, 101, 102, 660, 661, 662, 27, 663, 74, 103, 104, 105, 106, 29, 1024, 1025, 1026, 1027, 76, 1111, 1112, 1113, 1114, 1115, 1116, 1117, 1118, 1153, 1154, 1155] rfl (by decide +kernel)
set_option maxRecDepth 100000 in
theorem gL_law_X5_write : GoodIn wsL_law (wsV RL 154 RX5 yX5_write wsX5_write) := goodIn_app (goodIn_of _ (by decide +kernel)) ggL_law_X5_write
set_option maxRecDepth 100000 in
theorem ggL_law_X6_write : GoodIn wsL_law wsX6_write := goodIn_r _ [1031, 88, 89, 87, 678, 679, 680, 5, 681, 682, 683, 684, 685, 124, 125, 126, 131, 132, 133, 134, 85, 135, 1119, 1120, 1121, 1122, 1123, 1124, 1125, 1126, 1127, 1128, 1129, 1130, 1131, 1132, 1133, 1134, 1135] rfl (by decide +kernel)
set_option maxRecDepth 100000 in
theorem gL_law_X6_write : GoodIn wsL_law (wsV RL 157 RX6 yX6_write wsX6_write) := goodIn_app (goodIn_of _ (by decide +kernel)) ggL_law_X6_write
set_option maxRecDepth 100000 in
theorem ggL_law_X5_copy : GoodIn wsL_law wsX5_copy := goodIn_r _ [1035, 96, 28, 656, 1036, 994, 669, 1037, 497, 498, 499, 657, 658, 2, 659, 100, 101, 102, 103, 104, 105, 106, 29, 660, 661, 662, 27, 663, 74, 1038, 1039, 1040, 1041, 75, 1111, 1112, 1113, 1114, 1115, 1116, 1117, 1118, 1153, 1154, 1155] rfl (by decide +kernel)
set_option maxRecDepth 100000 in
theorem gL_law_X5_copy : GoodIn wsL_law (wsV RL 158 RX5 yX5_copy wsX5_copy) := goodIn_app (goodIn_of _ (by decide +kernel)) ggL_law_X5_copy
set_option maxRecDepth 100000 in
theorem ggL_law_X6_copy : GoodIn wsL_law wsX6_copy := goodIn_r _ [1045, 87, 88, 90, 89, 682, 683, 5, 684, 685, 124, 125, 126, 131, 132, 133, 134, 85, 135, 1119, 1120, 1121, 1122, 1123, 1124, 1125, 1126, 1127, 1128, 1129, 1130, 1131, 1132, 1133, 1134, 1135] rfl (by decide +kernel)
set_option maxRecDepth 100000 in
theorem gL_law_X6_copy : GoodIn wsL_law (wsV RL 162 RX6 yX6_copy wsX6_copy) := goodIn_app (goodIn_of _ (by decide +kernel)) ggL_law_X6_copy
set_option maxRecDepth 100000 in
theorem ggL_law_X5_load : GoodIn wsL_law wsX5_load := goodIn_r _ [1049, 28, 668, 15, 669, 297, 647, 652, 653, 654, 2, 655, 96, 656, 657, 658, 659, 100, 101, 102, 660, 661, 662, 27, 663, 74, 103, 104, 105, 106, 29, 210, 211, 212, 14, 213, 42, 1111, 1112, 1113, 1114, 1115, 1116, 1117, 1118, 1153, 1154, 1155, 1136, 1137, 1138, 1139, 1140, 1141, 1142, 1143, 1144, 1145, 1146, 1156, 1157, 1158, 1159, 1160, 1161] rfl (by decide +kernel)
set_option maxRecDepth 100000 in
theorem gL_law_X5_load : GoodIn wsL_law (wsV RL 163 RX5 yX5_load wsX5_load) := goodIn_app (goodIn_of _ (by decide +kernel)) ggL_law_X5_load
set_option maxRecDepth 100000 in
theorem ggL_law_X6_load : GoodIn wsL_law wsX6_load := goodIn_r _ [1053, 88, 81, 89, 678, 679, 680, 5, 681, 87, 682, 683, 684, 685, 124, 125, 126, 131, 132, 133, 134, 85, 135, 639, 640, 641, 642, 202, 203, 204, 205, 1119, 1120, 1121, 1122, 1123, 1124, 1125, 1126, 1127, 1128, 1129, 1130, 1131, 1132, 1133, 1134, 1135] rfl (by decide +kernel)
set_option maxRecDepth 100000 in
theorem gL_law_X6_load : GoodIn wsL_law (wsV RL 166 RX6 yX6_load wsX6_load) := goodIn_app (goodIn_of _ (by decide +kernel)) ggL_law_X6_load
set_option maxRecDepth 100000 in
theorem ggL_law_X5_judge : GoodIn wsL_law wsX5_judge := goodIn_r _ [1057, 28, 668, 669, 15, 329, 652, 653, 654, 2, 655, 96, 656, 657, 658, 659, 100, 101, 102, 660, 661, 662, 27, 663, 74, 103, 104, 105, 106, 29, 1111, 1112, 1113, 1114, 1115, 1116, 1117, 1118, 1153, 1154, 1155, 1136, 1137, 1138, 1139, 1140, 1141, 1142, 1143, 1144, 1145, 1146] rfl (by decide +kernel)
set_option maxRecDepth 100000 in
theorem gL_law_X5_judge : GoodIn wsL_law (wsV RL 167 RX5 yX5_judge wsX5_judge) := goodIn_app (goodIn_of _ (by decide +kernel)) ggL_law_X5_judge
set_option maxRecDepth 100000 in
theorem ggL_law_X6_judge : GoodIn wsL_law wsX6_judge := goodIn_r _ [1061, 88, 89, 81, 678, 679, 680, 5, 681, 87, 682, 683, 684, 685, 124, 125, 126, 131, 132, 133, 134, 85, 135, 160, 161, 162, 163, 1119, 1120, 1121, 1122, 1123, 1124, 1125, 1126, 1127, 1128, 1129, 1130, 1131, 1132, 1133, 1134, 1135] rfl (by decide +kernel)
set_option maxRecDepth 100000 in
theorem gL_law_X6_judge : GoodIn wsL_law (wsV RL 170 RX6 yX6_judge wsX6_judge) := goodIn_app (goodIn_of _ (by decide +kernel)) ggL_law_X6_judge
set_option maxRecDepth 100000 in
theorem ggL_law_X5_image : GoodIn wsL_law wsX5_image := goodIn_r _ [1065, 17, 15, 18, 492, 493, 494, 14, 495, 34, 35, 36, 37, 496, 497, 498, 499, 38, 39, 40, 41, 42, 44, 45, 500, 501, 502, 47, 503, 51, 52, 53, 54, 55, 56, 1111, 1112, 1113, 1114, 1115, 1116, 1117, 1118, 1136, 1137, 1138, 1139, 1140, 1141, 1142, 1143, 1144, 1145, 1146, 1156, 1157, 1158, 1159, 1160, 1161] rfl (by decide +kernel)
set_option maxRecDepth 100000 in
theorem gL_law_X5_image : GoodIn wsL_law (wsV RL 171 RX5 yX5_image wsX5_image) := goodIn_app (goodIn_of _ (by decide +kernel)) ggL_law_X5_image
set_option maxRecDepth 100000 in
theorem ggL_law_X6_image : GoodIn wsL_law wsX6_image := goodIn_r _ [1069, 81, 84, 1070, 510, 511, 5, 512, 1119, 1120, 1121, 1122, 1123, 1124, 1125, 1126, 1127, 1128, 1129, 1130, 1131, 1132, 1133, 1134, 1135] rfl (by decide +kernel)
set_option maxRecDepth 100000 in
theorem gL_law_X6_image : GoodIn wsL_law (wsV RL 174 RX6 yX6_image wsX6_image) := goodIn_app (goodIn_of _ (by decide +kernel)) ggL_law_X6_image
set_option maxRecDepth 100000 in
theorem ggL_law_X5_undo : GoodIn wsL_law wsX5_undo := goodIn_r _ [1074, 18, 533, 15, 17, 374, 103, 104, 105, 2, 106, 96, 29, 100, 101, 102, 492, 493, 494, 14, 495, 34, 35, 36, 37, 496, 497, 498, 499, 38, 39, 40, 41, 42, 44, 45, 500, 501, 502, 47, 503, 51, 52, 53, 54, 55, 56, 1111, 1112, 1113, 1114, 1115, 1116, 1117, 1118, 1136, 1137, 1138, 1139, 1140, 1141, 1142, 1143, 1144, 1145, 1146, 1156, 1157, 1158, 1159, 1160, 1161] rfl (by decide +kernel)
set_option maxRecDepth 100000 in
theorem gL_law_X5_undo : GoodIn wsL_law (wsV RL 175 RX5 yX5_undo wsX5_undo) := goodIn_app (goodIn_of _ (by decide +kernel)) ggL_law_X5_undo
set_option maxRecDepth 100000 in
theorem ggL_law_X6_undo : GoodIn wsL_law wsX6_undo := goodIn_r _ [1078, 1070, 84, 81, 131, 132, 133, 5, 134, 85, 135, 510, 511, 512, 1119, 1120, 1121, 1122, 1123, 1124, 1125, 1126, 1127, 1128, 1129, 1130, 1131, 1132, 1133, 1134, 1135] rfl (by decide +kernel)
set_option maxRecDepth 100000 in
theorem gL_law_X6_undo : GoodIn wsL_law (wsV RL 178 RX6 yX6_undo wsX6_undo) := goodIn_app (goodIn_of _ (by decide +kernel)) ggL_law_X6_undo
set_option maxRecDepth 100000 in
theorem ggL_law_X5_tear : GoodIn wsL_law wsX5_tear := goodIn_r _ [1082, 18, 1111, 1112, 1113, 1114, 1115, 1116, 1117, 1118] rfl (by decide +kernel)
set_option maxRecDepth 100000 in
theorem gL_law_X5_tear : GoodIn wsL_law (wsV RL 179 RX5 yX5_tear wsX5_tear) := goodIn_app (goodIn_of _ (by decide +kernel)) ggL_law_X5_tear
set_option maxRecDepth 100000 in
theorem ggL_law_X6_tear : GoodIn wsL_law wsX6_tear := goodIn_r _ [1086, 1070, 1119, 1120, 1121, 1122, 1123, 1124, 1125, 1126, 1127, 1128, 1129, 1130, 1131, 1132, 1133, 1134, 1135] rfl (by decide +kernel)
set_option maxRecDepth 100000 in
theorem gL_law_X6_tear : GoodIn wsL_law (wsV RL 182 RX6 yX6_tear wsX6_tear) := goodIn_app (goodIn_of _ (by decide +kernel)) ggL_law_X6_tear
set_option maxRecDepth 100000 in
theorem ggL_law_X5_count : GoodIn wsL_law wsX5_count := goodIn_r _ [1090, 15, 374, 616, 377, 24, 748, 739, 96, 461, 462, 463, 14, 464, 42, 44, 465, 456, 457, 458, 459, 460, 1091, 1092, 1093, 1094, 45, 103, 104, 105, 2, 106, 29, 100, 101, 102, 1111, 1112, 1113, 1114, 1115, 1116, 1117, 1118, 1136, 1137, 1138, 1139, 1140, 1141, 1142, 1143, 1144, 1145, 1146, 1147, 1148, 1149, 1150, 1151, 1152, 1156, 1157, 1158, 1159, 1160, 1161] rfl (by decide +kernel)
set_option maxRecDepth 100000 in
theorem gL_law_X5_count : GoodIn wsL_law (wsV RL 183 RX5 yX5_count wsX5_count) := goodIn_app (goodIn_of _ (by decide +kernel)) ggL_law_X5_count
set_option maxRecDepth 100000 in
theorem ggL_law_X6_count : GoodIn wsL_law wsX6_count := goodIn_r _ [1098, 81, 757, 480, 481, 482, 5, 483, 266, 267, 268, 269, 1099, 1100, 1101, 1102, 131, 132, 133, 134, 85, 135, 1119, 1120, 1121, 1122, 1123, 1124, 1125, 1126, 1127, 1128, 1129, 1130, 1131, 1132, 1133, 1134, 1135] rfl (by decide +kernel)
set_option maxRecDepth 100000 in
theorem gL_law_X6_count : GoodIn wsL_law (wsV RL 186 RX6 yX6_count wsX6_count) := goodIn_app (goodIn_of _ (by decide +kernel)) ggL_law_X6_count
set_option maxRecDepth 100000 in
theorem ggL_law_X5_status : GoodIn wsL_law wsX5_status := goodIn_r _ [1106, 96, 29, 100, 101, 2, 102, 103, 104, 105, 106, 1111, 1112, 1113, 1114, 1115, 1116, 1117, 1118] rfl (by decide +kernel)
set_option maxRecDepth 100000 in
theorem gL_law_X5_status : GoodIn wsL_law (wsV RL 187 RX5 yX5_status wsX5_status) := goodIn_app (goodIn_of _ (by decide +kernel)) ggL_law_X5_status
set_option maxRecDepth 100000 in
theorem ggL_law_X6_status : GoodIn wsL_law wsX6_status := goodIn_r _ [1110, 989, 197, 85, 124, 125, 5, 126, 131, 132, 133, 134, 135, 1119, 1120, 1121, 1122, 1123, 1124, 1125, 1126, 1127, 1128, 1129, 1130, 1131, 1132, 1133, 1134, 1135] rfl (by decide +kernel)
set_option maxRecDepth 100000 in
theorem gL_law_X6_status : GoodIn wsL_law (wsV RL 190 RX6 yX6_status wsX6_status) := goodIn_app (goodIn_of _ (by decide +kernel)) ggL_law_X6_status
theorem dL_law_0 : decode cL_law 0 = .ok (.new 7, 3) := by decide +kernel
theorem dL_law_3 : decode cL_law 3 = .ok (.dup, 1) := by decide +kernel
theorem dL_law_4 : decode cL_law 4 = .ok (.invokespecial 9, 3) := by decide +kernel
theorem dL_law_7 : decode cL_law 7 = .ok (.astore_n 1, 1) := by decide +kernel
theorem dL_law_8 : decode cL_law 8 = .ok (.new 10, 3) := by decide +kernel
theorem dL_law_11 : decode cL_law 11 = .ok (.dup, 1) := by decide +kernel
theorem dL_law_12 : decode cL_law 12 = .ok (.invokespecial 12, 3) := by decide +kernel
theorem dL_law_15 : decode cL_law 15 = .ok (.astore_n 2, 1) := by decide +kernel
theorem dL_law_16 : decode cL_law 16 = .ok (.iconst 0, 1) := by decide +kernel
theorem dL_law_17 : decode cL_law 17 = .ok (.istore_n 3, 1) := by decide +kernel
theorem dL_law_18 : decode cL_law 18 = .ok (.iload_n 3, 1) := by decide +kernel
theorem dL_law_19 : decode cL_law 19 = .ok (.aload_n 0, 1) := by decide +kernel
theorem dL_law_20 : decode cL_law 20 = .ok (.arraylength, 1) := by decide +kernel
theorem dL_law_21 : decode cL_law 21 = .ok (.bipush 6, 2) := by decide +kernel
theorem dL_law_23 : decode cL_law 23 = .ok (.isub, 1) := by decide +kernel
theorem dL_law_24 : decode cL_law 24 = .ok (.if_icmp .gt 1442, 3) := by decide +kernel
theorem dL_law_27 : decode cL_law 27 = .ok (.aload_n 0, 1) := by decide +kernel
theorem dL_law_28 : decode cL_law 28 = .ok (.iload_n 3, 1) := by decide +kernel
theorem dL_law_29 : decode cL_law 29 = .ok (.iaload, 1) := by decide +kernel
theorem dL_law_30 : decode cL_law 30 = .ok (.bipush 63, 2) := by decide +kernel
theorem dL_law_32 : decode cL_law 32 = .ok (.iand, 1) := by decide +kernel
theorem dL_law_33 : decode cL_law 33 = .ok (.tableswitch 1427 0 42 #[187, 220, 243, 276, 299, 332, 365, 408, 441, 464, 487, 510, 533, 576, 599, 632, 665, 698, 731, 754, 787, 820, 843, 866, 899, 932, 955, 999, 1022, 1055, 1068, 1081, 1114, 1147, 1190, 1233, 1296, 1319, 1342, 1355, 1368, 1381, 1404], 187) := by decide +kernel
theorem dL_law_220 : decode cL_law 220 = .ok (.aload_n 1, 1) := by decide +kernel
theorem dL_law_221 : decode cL_law 221 = .ok (.aload_n 0, 1) := by decide +kernel
theorem dL_law_222 : decode cL_law 222 = .ok (.iload_n 3, 1) := by decide +kernel
theorem dL_law_223 : decode cL_law 223 = .ok (.iconst 1, 1) := by decide +kernel
theorem dL_law_224 : decode cL_law 224 = .ok (.iadd, 1) := by decide +kernel
theorem dL_law_225 : decode cL_law 225 = .ok (.iaload, 1) := by decide +kernel
theorem dL_law_226 : decode cL_law 226 = .ok (.aload_n 0, 1) := by decide +kernel
theorem dL_law_227 : decode cL_law 227 = .ok (.iload_n 3, 1) := by decide +kernel
theorem dL_law_228 : decode cL_law 228 = .ok (.iconst 2, 1) := by decide +kernel
theorem dL_law_229 : decode cL_law 229 = .ok (.iadd, 1) := by decide +kernel
theorem dL_law_230 : decode cL_law 230 = .ok (.iaload, 1) := by decide +kernel
theorem dL_law_231 : decode cL_law 231 = .ok (.invokevirtual 13, 3) := by decide +kernel
theorem dL_law_234 : decode cL_law 234 = .ok (.aload_n 2, 1) := by decide +kernel
theorem dL_law_235 : decode cL_law 235 = .ok (.aload_n 0, 1) := by decide +kernel
theorem dL_law_236 : decode cL_law 236 = .ok (.iload_n 3, 1) := by decide +kernel
theorem dL_law_237 : decode cL_law 237 = .ok (.iconst 1, 1) := by decide +kernel
theorem dL_law_238 : decode cL_law 238 = .ok (.iadd, 1) := by decide +kernel
theorem dL_law_239 : decode cL_law 239 = .ok (.iaload, 1) := by decide +kernel
theorem dL_law_240 : decode cL_law 240 = .ok (.aload_n 0, 1) := by decide +kernel
theorem dL_law_241 : decode cL_law 241 = .ok (.iload_n 3, 1) := by decide +kernel
theorem dL_law_242 : decode cL_law 242 = .ok (.iconst 2, 1) := by decide +kernel
theorem dL_law_243 : decode cL_law 243 = .ok (.iadd, 1) := by decide +kernel
theorem dL_law_244 : decode cL_law 244 = .ok (.iaload, 1) := by decide +kernel
theorem dL_law_245 : decode cL_law 245 = .ok (.invokevirtual 17, 3) := by decide +kernel
theorem dL_law_248 : decode cL_law 248 = .ok (.if_icmp .eq 1212, 3) := by decide +kernel
theorem dL_law_251 : decode cL_law 251 = .ok (.iconst 0, 1) := by decide +kernel
theorem dL_law_252 : decode cL_law 252 = .ok (.ireturn, 1) := by decide +kernel
theorem dL_law_253 : decode cL_law 253 = .ok (.aload_n 1, 1) := by decide +kernel
theorem dL_law_254 : decode cL_law 254 = .ok (.aload_n 0, 1) := by decide +kernel
theorem dL_law_255 : decode cL_law 255 = .ok (.iload_n 3, 1) := by decide +kernel
theorem dL_law_256 : decode cL_law 256 = .ok (.iconst 1, 1) := by decide +kernel
theorem dL_law_257 : decode cL_law 257 = .ok (.iadd, 1) := by decide +kernel
theorem dL_law_258 : decode cL_law 258 = .ok (.iaload, 1) := by decide +kernel
theorem dL_law_259 : decode cL_law 259 = .ok (.invokevirtual 18, 3) := by decide +kernel
theorem dL_law_262 : decode cL_law 262 = .ok (.aload_n 2, 1) := by decide +kernel
theorem dL_law_263 : decode cL_law 263 = .ok (.aload_n 0, 1) := by decide +kernel
theorem dL_law_264 : decode cL_law 264 = .ok (.iload_n 3, 1) := by decide +kernel
theorem dL_law_265 : decode cL_law 265 = .ok (.iconst 1, 1) := by decide +kernel
theorem dL_law_266 : decode cL_law 266 = .ok (.iadd, 1) := by decide +kernel
theorem dL_law_267 : decode cL_law 267 = .ok (.iaload, 1) := by decide +kernel
theorem dL_law_268 : decode cL_law 268 = .ok (.invokevirtual 22, 3) := by decide +kernel
theorem dL_law_271 : decode cL_law 271 = .ok (.if_icmp .eq 1189, 3) := by decide +kernel
theorem dL_law_274 : decode cL_law 274 = .ok (.iconst 0, 1) := by decide +kernel
theorem dL_law_275 : decode cL_law 275 = .ok (.ireturn, 1) := by decide +kernel
theorem dL_law_276 : decode cL_law 276 = .ok (.aload_n 1, 1) := by decide +kernel
theorem dL_law_277 : decode cL_law 277 = .ok (.aload_n 0, 1) := by decide +kernel
theorem dL_law_278 : decode cL_law 278 = .ok (.iload_n 3, 1) := by decide +kernel
theorem dL_law_279 : decode cL_law 279 = .ok (.iconst 1, 1) := by decide +kernel
theorem dL_law_280 : decode cL_law 280 = .ok (.iadd, 1) := by decide +kernel
theorem dL_law_281 : decode cL_law 281 = .ok (.iaload, 1) := by decide +kernel
theorem dL_law_282 : decode cL_law 282 = .ok (.aload_n 0, 1) := by decide +kernel
theorem dL_law_283 : decode cL_law 283 = .ok (.iload_n 3, 1) := by decide +kernel
theorem dL_law_284 : decode cL_law 284 = .ok (.iconst 2, 1) := by decide +kernel
theorem dL_law_285 : decode cL_law 285 = .ok (.iadd, 1) := by decide +kernel
theorem dL_law_286 : decode cL_law 286 = .ok (.iaload, 1) := by decide +kernel
theorem dL_law_287 : decode cL_law 287 = .ok (.invokevirtual 23, 3) := by decide +kernel
theorem dL_law_290 : decode cL_law 290 = .ok (.aload_n 2, 1) := by decide +kernel
theorem dL_law_291 : decode cL_law 291 = .ok (.aload_n 0, 1) := by decide +kernel
theorem dL_law_292 : decode cL_law 292 = .ok (.iload_n 3, 1) := by decide +kernel
theorem dL_law_293 : decode cL_law 293 = .ok (.iconst 1, 1) := by decide +kernel
theorem dL_law_294 : decode cL_law 294 = .ok (.iadd, 1) := by decide +kernel
theorem dL_law_295 : decode cL_law 295 = .ok (.iaload, 1) := by decide +kernel
theorem dL_law_296 : decode cL_law 296 = .ok (.aload_n 0, 1) := by decide +kernel
theorem dL_law_297 : decode cL_law 297 = .ok (.iload_n 3, 1) := by decide +kernel
theorem dL_law_298 : decode cL_law 298 = .ok (.iconst 2, 1) := by decide +kernel
theorem dL_law_299 : decode cL_law 299 = .ok (.iadd, 1) := by decide +kernel
theorem dL_law_300 : decode cL_law 300 = .ok (.iaload, 1) := by decide +kernel
theorem dL_law_301 : decode cL_law 301 = .ok (.invokevirtual 26, 3) := by decide +kernel
theorem dL_law_304 : decode cL_law 304 = .ok (.if_icmp .eq 1156, 3) := by decide +kernel
theorem dL_law_307 : decode cL_law 307 = .ok (.iconst 0, 1) := by decide +kernel
theorem dL_law_308 : decode cL_law 308 = .ok (.ireturn, 1) := by decide +kernel
theorem dL_law_309 : decode cL_law 309 = .ok (.aload_n 1, 1) := by decide +kernel
theorem dL_law_310 : decode cL_law 310 = .ok (.aload_n 0, 1) := by decide +kernel
theorem dL_law_311 : decode cL_law 311 = .ok (.iload_n 3, 1) := by decide +kernel
theorem dL_law_312 : decode cL_law 312 = .ok (.iconst 1, 1) := by decide +kernel
theorem dL_law_313 : decode cL_law 313 = .ok (.iadd, 1) := by decide +kernel
theorem dL_law_314 : decode cL_law 314 = .ok (.iaload, 1) := by decide +kernel
theorem dL_law_315 : decode cL_law 315 = .ok (.invokevirtual 27, 3) := by decide +kernel
theorem dL_law_318 : decode cL_law 318 = .ok (.aload_n 2, 1) := by decide +kernel
theorem dL_law_319 : decode cL_law 319 = .ok (.aload_n 0, 1) := by decide +kernel
theorem dL_law_320 : decode cL_law 320 = .ok (.iload_n 3, 1) := by decide +kernel
theorem dL_law_321 : decode cL_law 321 = .ok (.iconst 1, 1) := by decide +kernel
theorem dL_law_322 : decode cL_law 322 = .ok (.iadd, 1) := by decide +kernel
theorem dL_law_323 : decode cL_law 323 = .ok (.iaload, 1) := by decide +kernel
theorem dL_law_324 : decode cL_law 324 = .ok (.invokevirtual 30, 3) := by decide +kernel
theorem dL_law_327 : decode cL_law 327 = .ok (.if_icmp .eq 1133, 3) := by decide +kernel
theorem dL_law_330 : decode cL_law 330 = .ok (.iconst 0, 1) := by decide +kernel
theorem dL_law_331 : decode cL_law 331 = .ok (.ireturn, 1) := by decide +kernel
theorem dL_law_332 : decode cL_law 332 = .ok (.aload_n 1, 1) := by decide +kernel
theorem dL_law_333 : decode cL_law 333 = .ok (.aload_n 0, 1) := by decide +kernel
theorem dL_law_334 : decode cL_law 334 = .ok (.iload_n 3, 1) := by decide +kernel
theorem dL_law_335 : decode cL_law 335 = .ok (.iconst 1, 1) := by decide +kernel
theorem dL_law_336 : decode cL_law 336 = .ok (.iadd, 1) := by decide +kernel
theorem dL_law_337 : decode cL_law 337 = .ok (.iaload, 1) := by decide +kernel
theorem dL_law_338 : decode cL_law 338 = .ok (.aload_n 0, 1) := by decide +kernel
theorem dL_law_339 : decode cL_law 339 = .ok (.iload_n 3, 1) := by decide +kernel
theorem dL_law_340 : decode cL_law 340 = .ok (.iconst 2, 1) := by decide +kernel
theorem dL_law_341 : decode cL_law 341 = .ok (.iadd, 1) := by decide +kernel
theorem dL_law_342 : decode cL_law 342 = .ok (.iaload, 1) := by decide +kernel
theorem dL_law_343 : decode cL_law 343 = .ok (.invokevirtual 31, 3) := by decide +kernel
theorem dL_law_346 : decode cL_law 346 = .ok (.aload_n 2, 1) := by decide +kernel
theorem dL_law_347 : decode cL_law 347 = .ok (.aload_n 0, 1) := by decide +kernel
