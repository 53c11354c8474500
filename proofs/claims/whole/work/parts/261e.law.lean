set_option maxRecDepth 20000 in
theorem gL_law_X7_alone : GoodIn wsL_law (wsV RL 200 RX7 yX7_alone wsX7_alone) := goodIn_app (goodIn_of _ (by decide +kernel)) ggL_law_X7_alone
set_option maxRecDepth 20000 in
theorem ggL_law_X8_alone : GoodIn wsL_law wsX8_alone := goodIn_r _ [1113, 126, 257, 258, 259, 5, 260, 261, 156, 157, 158, 727, 728, 729, 730, 159, 160, 161, 162, 114, 350, 351, 352, 353, 121, 354, 355, 374, 375, 376, 377, 128, 117, 370, 371, 372, 373, 356, 357, 358, 359, 127, 360, 361, 362, 363, 364, 365, 120, 119, 366, 367, 368, 369, 116, 378, 379, 380, 381, 115, 125, 382, 383, 384, 385, 1252, 1253, 1254, 1255, 1256, 1257, 1258, 1259, 1260, 1261, 1262, 1263, 1264, 1265, 1266, 1267, 1268, 1269, 1270, 1271, 1272, 1273, 1274, 1275, 1276, 1277, 1278, 1279, 1280, 1281, 1282, 1283, 1284, 1285, 1286, 1287, 1288] (by decide +kernel) (by decide +kernel)
set_option maxRecDepth 20000 in
theorem gL_law_X8_alone : GoodIn wsL_law (wsV RL 203 RX8 yX8_alone wsX8_alone) := goodIn_app (goodIn_of _ (by decide +kernel)) ggL_law_X8_alone
set_option maxRecDepth 20000 in
theorem ggL_law_X7_covered : GoodIn wsL_law wsX7_covered := goodIn_r _ [1117, 17, 244, 720, 721, 2, 722, 140, 141, 142, 143, 43, 283, 284, 285, 286, 16, 287, 288, 289, 15, 290, 48, 49, 291, 204, 205, 206, 50, 292, 51, 52, 53, 54, 55, 293, 56, 57, 294, 295, 296, 297, 298, 299, 300, 301, 302, 303, 304, 305, 306, 307, 308, 309, 310, 311, 312, 313, 314, 315, 316, 317, 318, 319, 320, 321, 322, 323, 324, 325, 326, 327, 328, 329, 330, 331, 332, 333, 66, 67, 334, 335, 336, 337, 338, 339, 340, 341, 694, 903, 904, 905, 906, 1240, 1241, 1242, 1243, 1244, 1245, 1246, 1247, 1248, 1249, 1250, 1251, 1289, 1290, 1291, 1292, 1293, 1294, 1295, 1296, 1297, 1298, 1299, 1300] (by decide +kernel) (by decide +kernel)
set_option maxRecDepth 20000 in
theorem gL_law_X7_covered : GoodIn wsL_law (wsV RL 204 RX7 yX7_covered wsX7_covered) := goodIn_app (goodIn_of _ (by decide +kernel)) ggL_law_X7_covered
set_option maxRecDepth 20000 in
theorem ggL_law_X8_covered : GoodIn wsL_law wsX8_covered := goodIn_r _ [1121, 261, 126, 727, 728, 5, 729, 730, 156, 157, 158, 159, 160, 161, 162, 114, 731, 732, 733, 734, 350, 351, 352, 353, 121, 354, 355, 356, 357, 358, 359, 127, 360, 361, 362, 363, 117, 364, 365, 120, 119, 366, 367, 368, 369, 116, 370, 371, 372, 373, 374, 375, 376, 377, 128, 378, 379, 380, 381, 115, 125, 382, 383, 384, 385, 1252, 1253, 1254, 1255, 1256, 1257, 1258, 1259, 1260, 1261, 1262, 1263, 1264, 1265, 1266, 1267, 1268, 1269, 1270, 1271, 1272, 1273, 1274, 1275, 1276, 1277, 1278, 1279, 1280, 1281, 1282, 1283, 1284, 1285, 1286, 1287, 1288] (by decide +kernel) (by decide +kernel)
set_option maxRecDepth 20000 in
theorem gL_law_X8_covered : GoodIn wsL_law (wsV RL 207 RX8 yX8_covered wsX8_covered) := goodIn_app (goodIn_of _ (by decide +kernel)) ggL_law_X8_covered
set_option maxRecDepth 20000 in
theorem ggL_law_X7_reach : GoodIn wsL_law wsX7_reach := goodIn_r _ [1125, 16, 390, 404, 405, 406, 2, 407, 140, 141, 142, 143, 43, 711, 323, 324, 15, 325, 50, 1240, 1241, 1242, 1243, 1244, 1245, 1246, 1247, 1248, 1249, 1250, 1251, 1289, 1290, 1291, 1292, 1293, 1294, 1295, 1296, 1297, 1298, 1299, 1300] (by decide +kernel) (by decide +kernel)
set_option maxRecDepth 20000 in
theorem gL_law_X7_reach : GoodIn wsL_law (wsV RL 208 RX7 yX7_reach wsX7_reach) := goodIn_app (goodIn_of _ (by decide +kernel)) ggL_law_X7_reach
set_option maxRecDepth 20000 in
theorem ggL_law_X8_reach : GoodIn wsL_law wsX8_reach := goodIn_r _ [1129, 395, 115, 125, 422, 423, 424, 5, 425, 156, 157, 158, 159, 160, 161, 162, 114, 382, 383, 384, 385, 116, 1252, 1253, 1254, 1255, 1256, 1257, 1258, 1259, 1260, 1261, 1262, 1263, 1264, 1265, 1266, 1267, 1268, 1269, 1270, 1271, 1272, 1273, 1274, 1275, 1276, 1277, 1278, 1279, 1280, 1281, 1282, 1283, 1284, 1285, 1286, 1287, 1288] (by decide +kernel) (by decide +kernel)
set_option maxRecDepth 20000 in
theorem gL_law_X8_reach : GoodIn wsL_law (wsV RL 211 RX8 yX8_reach wsX8_reach) := goodIn_app (goodIn_of _ (by decide +kernel)) ggL_law_X8_reach
set_option maxRecDepth 20000 in
theorem ggL_law_X7_farthest : GoodIn wsL_law wsX7_farthest := goodIn_r _ [1133, 41, 16, 390, 828, 404, 405, 406, 2, 407, 140, 141, 142, 143, 43, 835, 836, 837, 40, 838, 839, 840, 711, 323, 324, 15, 325, 50, 852, 853, 854, 855, 1240, 1241, 1242, 1243, 1244, 1245, 1246, 1247, 1248, 1249, 1250, 1251, 1289, 1290, 1291, 1292, 1293, 1294, 1295, 1296, 1297, 1298, 1299, 1300, 1313, 1314] (by decide +kernel) (by decide +kernel)
set_option maxRecDepth 20000 in
theorem gL_law_X7_farthest : GoodIn wsL_law (wsV RL 212 RX7 yX7_farthest wsX7_farthest) := goodIn_app (goodIn_of _ (by decide +kernel)) ggL_law_X7_farthest
set_option maxRecDepth 20000 in
theorem ggL_law_X8_farthest : GoodIn wsL_law wsX8_farthest := goodIn_r _ [1137, 115, 125, 422, 423, 424, 5, 425, 156, 157, 158, 159, 160, 161, 162, 114, 382, 383, 384, 385, 116, 1252, 1253, 1254, 1255, 1256, 1257, 1258, 1259, 1260, 1261, 1262, 1263, 1264, 1265, 1266, 1267, 1268, 1269, 1270, 1271, 1272, 1273, 1274, 1275, 1276, 1277, 1278, 1279, 1280, 1281, 1282, 1283, 1284, 1285, 1286, 1287, 1288] (by decide +kernel) (by decide +kernel)
set_option maxRecDepth 20000 in
theorem gL_law_X8_farthest : GoodIn wsL_law (wsV RL 215 RX8 yX8_farthest wsX8_farthest) := goodIn_app (goodIn_of _ (by decide +kernel)) ggL_law_X8_farthest
set_option maxRecDepth 20000 in
theorem ggL_law_X7_ofKind : GoodIn wsL_law wsX7_ofKind := goodIn_r _ [1141, 16, 244, 266, 269, 270, 2, 271, 140, 141, 142, 143, 43, 1240, 1241, 1242, 1243, 1244, 1245, 1246, 1247, 1248, 1249, 1250, 1251, 1289, 1290, 1291, 1292, 1293, 1294, 1295, 1296, 1297, 1298, 1299, 1300] (by decide +kernel) (by decide +kernel)
set_option maxRecDepth 20000 in
theorem gL_law_X7_ofKind : GoodIn wsL_law (wsV RL 216 RX7 yX7_ofKind wsX7_ofKind) := goodIn_app (goodIn_of _ (by decide +kernel)) ggL_law_X7_ofKind
set_option maxRecDepth 20000 in
theorem ggL_law_X8_ofKind : GoodIn wsL_law wsX8_ofKind := goodIn_r _ [1145, 346, 261, 117, 156, 157, 5, 158, 159, 160, 161, 162, 114, 1252, 1253, 1254, 1255, 1256, 1257, 1258, 1259, 1260, 1261, 1262, 1263, 1264, 1265, 1266, 1267, 1268, 1269, 1270, 1271, 1272, 1273, 1274, 1275, 1276, 1277, 1278, 1279, 1280, 1281, 1282, 1283, 1284, 1285, 1286, 1287, 1288] (by decide +kernel) (by decide +kernel)
set_option maxRecDepth 20000 in
theorem gL_law_X8_ofKind : GoodIn wsL_law (wsV RL 219 RX8 yX8_ofKind wsX8_ofKind) := goodIn_app (goodIn_of _ (by decide +kernel)) ggL_law_X8_ofKind
set_option maxRecDepth 20000 in
theorem ggL_law_X7_judge : GoodIn wsL_law wsX7_judge := goodIn_r _ [1149, 17, 16, 21, 794, 795, 796, 2, 797, 798, 167, 168, 169, 170, 137, 138, 139, 171, 172, 173, 23, 174, 75, 175, 176, 177, 178, 140, 141, 142, 143, 43, 287, 288, 289, 15, 290, 48, 49, 291, 204, 205, 206, 50, 292, 51, 52, 53, 54, 55, 293, 56, 57, 799, 800, 801, 802, 202, 179, 180, 181, 182, 148, 739, 740, 741, 742, 302, 303, 304, 305, 306, 307, 308, 309, 803, 299, 300, 301, 310, 311, 312, 313, 314, 315, 316, 317, 318, 319, 320, 321, 322, 323, 324, 325, 326, 327, 328, 329, 330, 331, 332, 333, 66, 67, 334, 335, 336, 337, 338, 339, 340, 341, 1240, 1241, 1242, 1243, 1244, 1245, 1246, 1247, 1248, 1249, 1250, 1251, 1301, 1302, 1303, 1289, 1290, 1291, 1292, 1293, 1294, 1295, 1296, 1297, 1298, 1299, 1300] (by decide +kernel) (by decide +kernel)
set_option maxRecDepth 20000 in
theorem gL_law_X7_judge : GoodIn wsL_law (wsV RL 220 RX7 yX7_judge wsX7_judge) := goodIn_app (goodIn_of _ (by decide +kernel)) ggL_law_X7_judge
set_option maxRecDepth 20000 in
theorem ggL_law_X8_judge : GoodIn wsL_law wsX8_judge := goodIn_r _ [1153, 808, 809, 810, 5, 811, 153, 155, 108, 156, 157, 158, 159, 160, 161, 162, 114, 191, 192, 193, 194, 106, 812, 813, 814, 815, 110, 350, 351, 352, 353, 261, 126, 121, 354, 355, 759, 760, 761, 762, 115, 374, 375, 376, 377, 128, 117, 356, 357, 358, 359, 127, 360, 361, 362, 363, 364, 365, 120, 119, 366, 367, 368, 369, 116, 370, 371, 372, 373, 378, 379, 380, 381, 125, 382, 383, 384, 385, 1252, 1253, 1254, 1255, 1256, 1257, 1258, 1259, 1260, 1261, 1262, 1263, 1264, 1265, 1266, 1267, 1268, 1269, 1270, 1271, 1272, 1273, 1274, 1275, 1276, 1277, 1278, 1279, 1280, 1281, 1282, 1283, 1284, 1285, 1286, 1287, 1288] (by decide +kernel) (by decide +kernel)
set_option maxRecDepth 20000 in
theorem gL_law_X8_judge : GoodIn wsL_law (wsV RL 223 RX8 yX8_judge wsX8_judge) := goodIn_app (goodIn_of _ (by decide +kernel)) ggL_law_X8_judge
set_option maxRecDepth 20000 in
theorem ggL_law_X7_hours : GoodIn wsL_law wsX7_hours := goodIn_r _ [1157, 16, 955, 956, 2, 957, 140, 141, 142, 143, 43, 294, 295, 296, 15, 297, 298, 299, 300, 301, 292, 55, 302, 303, 304, 305, 306, 307, 308, 309, 51, 310, 311, 312, 313, 54, 53, 314, 315, 316, 317, 293, 318, 319, 320, 321, 48, 322, 323, 324, 325, 50, 326, 327, 328, 329, 49, 330, 331, 332, 333, 66, 67, 334, 335, 336, 337, 338, 339, 340, 341, 739, 740, 741, 742, 1240, 1241, 1242, 1243, 1244, 1245, 1246, 1247, 1248, 1249, 1250, 1251, 1289, 1290, 1291, 1292, 1293, 1294, 1295, 1296, 1297, 1298, 1299, 1300] (by decide +kernel) (by decide +kernel)
set_option maxRecDepth 20000 in
theorem gL_law_X7_hours : GoodIn wsL_law (wsV RL 224 RX7 yX7_hours wsX7_hours) := goodIn_app (goodIn_of _ (by decide +kernel)) ggL_law_X7_hours
set_option maxRecDepth 20000 in
theorem ggL_law_X8_hours : GoodIn wsL_law wsX8_hours := goodIn_r _ [1161, 730, 156, 157, 5, 158, 159, 160, 161, 162, 114, 731, 732, 733, 734, 350, 351, 352, 353, 261, 126, 121, 354, 355, 356, 357, 358, 359, 127, 360, 361, 362, 363, 117, 364, 365, 120, 119, 366, 367, 368, 369, 116, 370, 371, 372, 373, 374, 375, 376, 377, 128, 378, 379, 380, 381, 115, 125, 382, 383, 384, 385, 1162, 1163, 1164, 1165, 759, 760, 761, 762, 1252, 1253, 1254, 1255, 1256, 1257, 1258, 1259, 1260, 1261, 1262, 1263, 1264, 1265, 1266, 1267, 1268, 1269, 1270, 1271, 1272, 1273, 1274, 1275, 1276, 1277, 1278, 1279, 1280, 1281, 1282, 1283, 1284, 1285, 1286, 1287, 1288] (by decide +kernel) (by decide +kernel)
set_option maxRecDepth 20000 in
theorem gL_law_X8_hours : GoodIn wsL_law (wsV RL 227 RX8 yX8_hours wsX8_hours) := goodIn_app (goodIn_of _ (by decide +kernel)) ggL_law_X8_hours
set_option maxRecDepth 20000 in
theorem ggL_law_X7_drawn : GoodIn wsL_law wsX7_drawn := goodIn_r _ [1169, 16, 955, 956, 2, 957, 140, 141, 142, 143, 43, 1170, 1171, 1172, 15, 1173, 292, 51, 1174, 1175, 1176, 1177, 55, 49, 56, 48, 748, 749, 750, 751, 752, 753, 754, 1178, 1179, 1180, 1181, 57, 1182, 326, 327, 328, 329, 334, 335, 336, 337, 293, 338, 339, 340, 341, 743, 744, 745, 746, 747, 740, 741, 742, 302, 303, 304, 305, 306, 307, 308, 309, 1240, 1241, 1242, 1243, 1244, 1245, 1246, 1247, 1248, 1249, 1250, 1251, 1289, 1290, 1291, 1292, 1293, 1294, 1295, 1296, 1297, 1298, 1299, 1300] (by decide +kernel) (by decide +kernel)
set_option maxRecDepth 20000 in
theorem gL_law_X7_drawn : GoodIn wsL_law (wsV RL 228 RX7 yX7_drawn wsX7_drawn) := goodIn_app (goodIn_of _ (by decide +kernel)) ggL_law_X7_drawn
set_option maxRecDepth 20000 in
theorem ggL_law_X8_drawn : GoodIn wsL_law wsX8_drawn := goodIn_r _ [1186, 730, 261, 355, 156, 157, 5, 158, 159, 160, 161, 162, 114, 350, 351, 352, 353, 126, 121, 354, 1187, 1188, 1189, 1190, 117, 122, 116, 1191, 1192, 1193, 1194, 123, 1195, 763, 764, 765, 759, 760, 761, 762, 115, 374, 375, 376, 377, 128, 1162, 1163, 1164, 1165, 1252, 1253, 1254, 1255, 1256, 1257, 1258, 1259, 1260, 1261, 1262, 1263, 1264, 1265, 1266, 1267, 1268, 1269, 1270, 1271, 1272, 1273, 1274, 1275, 1276, 1277, 1278, 1279, 1280, 1281, 1282, 1283, 1284, 1285, 1286, 1287, 1288] (by decide +kernel) (by decide +kernel)
set_option maxRecDepth 20000 in
theorem gL_law_X8_drawn : GoodIn wsL_law (wsV RL 231 RX8 yX8_drawn wsX8_drawn) := goodIn_app (goodIn_of _ (by decide +kernel)) ggL_law_X8_drawn
set_option maxRecDepth 20000 in
theorem ggL_law_X7_seed : GoodIn wsL_law wsX7_seed := goodIn_r _ [1199, 16, 1200, 1240, 1241, 1242, 1243, 1244, 1245, 1246, 1247, 1248, 1249, 1250, 1251, 1289, 1290, 1291, 1292, 1293, 1294, 1295, 1296, 1297, 1298, 1299, 1300] (by decide +kernel) (by decide +kernel)
set_option maxRecDepth 20000 in
theorem gL_law_X7_seed : GoodIn wsL_law (wsV RL 232 RX7 yX7_seed wsX7_seed) := goodIn_app (goodIn_of _ (by decide +kernel)) ggL_law_X7_seed
set_option maxRecDepth 20000 in
theorem ggL_law_X8_seed : GoodIn wsL_law wsX8_seed := goodIn_r _ [1204, 123, 1252, 1253, 1254, 1255, 1256, 1257, 1258, 1259, 1260, 1261, 1262, 1263, 1264, 1265, 1266, 1267, 1268, 1269, 1270, 1271, 1272, 1273, 1274, 1275, 1276, 1277, 1278, 1279, 1280, 1281, 1282, 1283, 1284, 1285, 1286, 1287, 1288] (by decide +kernel) (by decide +kernel)
set_option maxRecDepth 20000 in
theorem gL_law_X8_seed : GoodIn wsL_law (wsV RL 235 RX8 yX8_seed wsX8_seed) := goodIn_app (goodIn_of _ (by decide +kernel)) ggL_law_X8_seed
set_option maxRecDepth 20000 in
theorem ggL_law_X7_image : GoodIn wsL_law wsX7_image := goodIn_r _ [1208, 19, 16, 1209, 287, 288, 289, 15, 290, 48, 49, 291, 204, 205, 206, 50, 292, 51, 52, 53, 54, 55, 293, 56, 57, 1240, 1241, 1242, 1243, 1244, 1245, 1246, 1247, 1248, 1249, 1250, 1251, 1289, 1290, 1291, 1292, 1293, 1294, 1295, 1296, 1297, 1298, 1299, 1300] (by decide +kernel) (by decide +kernel)
set_option maxRecDepth 20000 in
theorem gL_law_X7_image : GoodIn wsL_law (wsV RL 236 RX7 yX7_image wsX7_image) := goodIn_app (goodIn_of _ (by decide +kernel)) ggL_law_X7_image
set_option maxRecDepth 20000 in
theorem ggL_law_X8_image : GoodIn wsL_law wsX8_image := goodIn_r _ [1213, 1214, 631, 4, 5, 634, 103, 104, 105, 11, 12, 42, 106, 107, 108, 109, 76, 110, 111, 112, 113, 114, 115, 116, 117, 118, 119, 120, 121, 122, 123, 124, 125, 126, 127, 128, 129, 130, 131, 132, 635, 636, 637, 638, 261, 354, 639, 640, 641, 1252, 1253, 1254, 1255, 1256, 1257, 1258, 1259, 1260, 1261, 1262, 1263, 1264, 1265, 1266, 1267, 1268, 1269, 1270, 1271, 1272, 1273, 1274, 1275, 1276, 1277, 1278, 1279, 1280, 1281, 1282, 1283, 1284, 1285, 1286, 1287, 1288] (by decide +kernel) (by decide +kernel)
set_option maxRecDepth 20000 in
theorem gL_law_X8_image : GoodIn wsL_law (wsV RL 239 RX8 yX8_image wsX8_image) := goodIn_app (goodIn_of _ (by decide +kernel)) ggL_law_X8_image
set_option maxRecDepth 20000 in
theorem ggL_law_X7_back : GoodIn wsL_law wsX7_back := goodIn_r _ [1218, 1209, 16, 19, 21, 140, 141, 142, 2, 143, 43, 287, 288, 289, 15, 290, 48, 49, 291, 204, 205, 206, 50, 292, 51, 52, 53, 54, 55, 293, 56, 57, 171, 172, 173, 23, 174, 75, 276, 277, 278, 279, 240, 241, 242, 243, 244, 245, 246, 247, 248, 148, 1240, 1241, 1242, 1243, 1244, 1245, 1246, 1247, 1248, 1249, 1250, 1251, 1289, 1290, 1291, 1292, 1293, 1294, 1295, 1296, 1297, 1298, 1299, 1300, 1301, 1302, 1303] (by decide +kernel) (by decide +kernel)
set_option maxRecDepth 20000 in
theorem gL_law_X7_back : GoodIn wsL_law (wsV RL 240 RX7 yX7_back wsX7_back) := goodIn_app (goodIn_of _ (by decide +kernel)) ggL_law_X7_back
set_option maxRecDepth 20000 in
theorem ggL_law_X8_back : GoodIn wsL_law wsX8_back := goodIn_r _ [1222, 1214, 106, 112, 261, 159, 160, 161, 5, 162, 114, 635, 636, 637, 638, 115, 116, 117, 118, 119, 120, 121, 354, 122, 123, 639, 640, 641, 1252, 1253, 1254, 1255, 1256, 1257, 1258, 1259, 1260, 1261, 1262, 1263, 1264, 1265, 1266, 1267, 1268, 1269, 1270, 1271, 1272, 1273, 1274, 1275, 1276, 1277, 1278, 1279, 1280, 1281, 1282, 1283, 1284, 1285, 1286, 1287, 1288] (by decide +kernel) (by decide +kernel)
set_option maxRecDepth 20000 in
theorem gL_law_X8_back : GoodIn wsL_law (wsV RL 243 RX8 yX8_back wsX8_back) := goodIn_app (goodIn_of _ (by decide +kernel)) ggL_law_X8_back
set_option maxRecDepth 20000 in
theorem ggL_law_X7_status : GoodIn wsL_law wsX7_status := goodIn_r _ [1226, 43, 16, 390, 244, 462, 463, 29, 473, 1200, 1227, 1228, 1229, 15, 1230, 48, 49, 748, 749, 750, 751, 752, 753, 754, 739, 740, 741, 742, 302, 303, 304, 305, 292, 55, 306, 307, 308, 309, 51, 1231, 1232, 1233, 2, 1234, 21, 175, 176, 177, 23, 178, 75, 1240, 1241, 1242, 1243, 1244, 1245, 1246, 1247, 1248, 1249, 1250, 1251, 1289, 1290, 1291, 1292, 1293, 1294, 1295, 1296, 1297, 1298, 1299, 1300, 1315, 1316, 1301, 1302, 1303] (by decide +kernel) (by decide +kernel)
set_option maxRecDepth 20000 in
theorem gL_law_X7_status : GoodIn wsL_law (wsV RL 244 RX7 yX7_status wsX7_status) := goodIn_app (goodIn_of _ (by decide +kernel)) ggL_law_X7_status
set_option maxRecDepth 20000 in
theorem ggL_law_X8_status : GoodIn wsL_law wsX8_status := goodIn_r _ [1238, 115, 116, 261, 354, 122, 484, 123, 106, 395, 1239, 114, 763, 764, 5, 765, 350, 351, 352, 353, 126, 121, 355, 759, 760, 761, 762, 374, 375, 376, 377, 128, 117, 156, 157, 158, 1252, 1253, 1254, 1255, 1256, 1257, 1258, 1259, 1260, 1261, 1262, 1263, 1264, 1265, 1266, 1267, 1268, 1269, 1270, 1271, 1272, 1273, 1274, 1275, 1276, 1277, 1278, 1279, 1280, 1281, 1282, 1283, 1284, 1285, 1286, 1287, 1288] (by decide +kernel) (by decide +kernel)
set_option maxRecDepth 20000 in
theorem gL_law_X8_status : GoodIn wsL_law (wsV RL 247 RX8 yX8_status wsX8_status) := goodIn_app (goodIn_of _ (by decide +kernel)) ggL_law_X8_status
