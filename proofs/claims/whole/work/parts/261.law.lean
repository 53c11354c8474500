set_option maxRecDepth 20000 in
theorem ggL_law_X7_init : GoodIn wsL_law wsX7_init := goodIn_r _ [9, 10, 11, 12, 13, 14, 15, 16, 17, 18, 19, 20, 21, 22, 23, 24, 25, 26, 27, 28, 29, 30, 31, 32, 33, 34, 35, 36, 37, 38, 39, 40, 41, 42, 43, 44, 45, 46, 47, 48, 49, 50, 51, 52, 53, 54, 55, 56, 57, 58, 59, 60, 61, 62, 63, 64, 65, 66, 67, 68, 2, 69, 70, 71, 72, 73, 74, 75, 76, 77, 78, 79, 80, 81, 82, 83, 84, 85, 86, 87, 88, 89, 90, 91, 92, 93, 94, 95, 96, 97, 98, 99, 100, 101, 1289, 1290, 1291, 1292, 1293, 1294, 1295, 1296, 1297, 1298, 1299, 1300, 1240, 1241, 1242, 1243, 1244, 1245, 1246, 1247, 1248, 1249, 1250, 1251, 1301, 1302, 1303, 1304, 1305, 1306, 1307, 1308, 1309, 1310, 1311, 1312, 1313, 1314, 1315, 1316] (by decide +kernel) (by decide +kernel)
set_option maxRecDepth 20000 in
theorem gL_law_X7_init : GoodIn wsL_law (wsX7_init) := ggL_law_X7_init
set_option maxRecDepth 20000 in
theorem ggL_law_X8_init : GoodIn wsL_law wsX8_init := goodIn_r _ [104, 105, 11, 12, 44, 106, 107, 108, 109, 78, 110, 111, 112, 113, 114, 115, 116, 117, 118, 119, 120, 121, 122, 123, 124, 125, 126, 127, 128, 129, 130, 131, 132, 1252, 1253, 1254, 1255, 1256, 1257, 1258, 1259, 1260, 1261, 1262, 1263, 1264, 1265, 1266, 1267, 1268, 1269, 1270, 1271, 1272, 1273, 1274, 1275, 1276, 1277, 1278, 1279, 1280, 1281, 1282, 1283, 1284, 1285, 1286, 1287, 1288] (by decide +kernel) (by decide +kernel)
set_option maxRecDepth 20000 in
theorem gL_law_X8_init : GoodIn wsL_law (wsX8_init) := ggL_law_X8_init
set_option maxRecDepth 20000 in
theorem ggL_law_X7_row : GoodIn wsL_law wsX7_row := goodIn_r _ [136, 21, 137, 138, 2, 139, 140, 141, 142, 143, 45, 144, 145, 146, 23, 147, 77, 148, 79, 1240, 1241, 1242, 1243, 1244, 1245, 1246, 1247, 1248, 1249, 1250, 1251, 1301, 1302, 1303] (by decide +kernel) (by decide +kernel)
set_option maxRecDepth 20000 in
theorem gL_law_X7_row : GoodIn wsL_law (wsV RL 13 RX7 yX7_row wsX7_row) := goodIn_app (goodIn_of _ (by decide +kernel)) ggL_law_X7_row
set_option maxRecDepth 20000 in
theorem ggL_law_X8_row : GoodIn wsL_law wsX8_row := goodIn_r _ [152, 153, 154, 155, 106, 107, 108, 110, 156, 157, 5, 158, 159, 160, 161, 162, 114, 1252, 1253, 1254, 1255, 1256, 1257, 1258, 1259, 1260, 1261, 1262, 1263, 1264, 1265, 1266, 1267, 1268, 1269, 1270, 1271, 1272, 1273, 1274, 1275, 1276, 1277, 1278, 1279, 1280, 1281, 1282, 1283, 1284, 1285, 1286, 1287, 1288] (by decide +kernel) (by decide +kernel)
set_option maxRecDepth 20000 in
theorem gL_law_X8_row : GoodIn wsL_law (wsV RL 17 RX8 yX8_row wsX8_row) := goodIn_app (goodIn_of _ (by decide +kernel)) ggL_law_X8_row
set_option maxRecDepth 20000 in
theorem ggL_law_X7_set : GoodIn wsL_law wsX7_set := goodIn_r _ [166, 21, 167, 168, 169, 2, 170, 137, 138, 139, 171, 172, 173, 23, 174, 77, 175, 176, 177, 178, 179, 180, 181, 182, 148, 140, 141, 142, 143, 45, 183, 184, 185, 186, 79, 1240, 1241, 1242, 1243, 1244, 1245, 1246, 1247, 1248, 1249, 1250, 1251, 1301, 1302, 1303] (by decide +kernel) (by decide +kernel)
set_option maxRecDepth 20000 in
theorem gL_law_X7_set : GoodIn wsL_law (wsV RL 20 RX7 yX7_set wsX7_set) := goodIn_app (goodIn_of _ (by decide +kernel)) ggL_law_X7_set
set_option maxRecDepth 20000 in
theorem ggL_law_X8_set : GoodIn wsL_law wsX8_set := goodIn_r _ [190, 108, 110, 107, 191, 192, 193, 5, 194, 153, 106, 156, 157, 158, 159, 160, 161, 162, 114, 195, 196, 197, 1252, 1253, 1254, 1255, 1256, 1257, 1258, 1259, 1260, 1261, 1262, 1263, 1264, 1265, 1266, 1267, 1268, 1269, 1270, 1271, 1272, 1273, 1274, 1275, 1276, 1277, 1278, 1279, 1280, 1281, 1282, 1283, 1284, 1285, 1286, 1287, 1288] (by decide +kernel) (by decide +kernel)
set_option maxRecDepth 20000 in
theorem gL_law_X8_set : GoodIn wsL_law (wsV RL 24 RX8 yX8_set wsX8_set) := goodIn_app (goodIn_of _ (by decide +kernel)) ggL_law_X8_set
set_option maxRecDepth 20000 in
theorem ggL_law_X7_copy : GoodIn wsL_law wsX7_copy := goodIn_r _ [201, 21, 202, 203, 204, 205, 206, 207, 208, 209, 2, 210, 211, 167, 168, 169, 170, 137, 138, 139, 171, 172, 173, 23, 174, 77, 175, 176, 177, 178, 212, 213, 214, 215, 148, 140, 141, 142, 143, 45, 1240, 1241, 1242, 1243, 1244, 1245, 1246, 1247, 1248, 1249, 1250, 1251, 1301, 1302, 1303] (by decide +kernel) (by decide +kernel)
set_option maxRecDepth 20000 in
theorem gL_law_X7_copy : GoodIn wsL_law (wsV RL 25 RX7 yX7_copy wsX7_copy) := goodIn_app (goodIn_of _ (by decide +kernel)) ggL_law_X7_copy
set_option maxRecDepth 20000 in
theorem ggL_law_X8_copy : GoodIn wsL_law wsX8_copy := goodIn_r _ [219, 153, 106, 107, 108, 111, 110, 156, 157, 5, 158, 159, 160, 161, 162, 114, 1252, 1253, 1254, 1255, 1256, 1257, 1258, 1259, 1260, 1261, 1262, 1263, 1264, 1265, 1266, 1267, 1268, 1269, 1270, 1271, 1272, 1273, 1274, 1275, 1276, 1277, 1278, 1279, 1280, 1281, 1282, 1283, 1284, 1285, 1286, 1287, 1288] (by decide +kernel) (by decide +kernel)
set_option maxRecDepth 20000 in
theorem gL_law_X8_copy : GoodIn wsL_law (wsV RL 29 RX8 yX8_copy wsX8_copy) := goodIn_app (goodIn_of _ (by decide +kernel)) ggL_law_X8_copy
set_option maxRecDepth 20000 in
theorem ggL_law_X7_element : GoodIn wsL_law wsX7_element := goodIn_r _ [223, 21, 202, 137, 138, 2, 139, 179, 180, 181, 23, 182, 148, 1240, 1241, 1242, 1243, 1244, 1245, 1246, 1247, 1248, 1249, 1250, 1251, 1301, 1302, 1303] (by decide +kernel) (by decide +kernel)
set_option maxRecDepth 20000 in
theorem gL_law_X7_element : GoodIn wsL_law (wsV RL 30 RX7 yX7_element wsX7_element) := goodIn_app (goodIn_of _ (by decide +kernel)) ggL_law_X7_element
set_option maxRecDepth 20000 in
theorem ggL_law_X8_element : GoodIn wsL_law wsX8_element := goodIn_r _ [227, 153, 106, 108, 110, 156, 157, 5, 158, 1252, 1253, 1254, 1255, 1256, 1257, 1258, 1259, 1260, 1261, 1262, 1263, 1264, 1265, 1266, 1267, 1268, 1269, 1270, 1271, 1272, 1273, 1274, 1275, 1276, 1277, 1278, 1279, 1280, 1281, 1282, 1283, 1284, 1285, 1286, 1287, 1288] (by decide +kernel) (by decide +kernel)
set_option maxRecDepth 20000 in
theorem gL_law_X8_element : GoodIn wsL_law (wsV RL 34 RX8 yX8_element wsX8_element) := goodIn_app (goodIn_of _ (by decide +kernel)) ggL_law_X8_element
set_option maxRecDepth 20000 in
theorem ggL_law_X7_holds : GoodIn wsL_law wsX7_holds := goodIn_r _ [231, 21, 211, 137, 138, 2, 139, 1240, 1241, 1242, 1243, 1244, 1245, 1246, 1247, 1248, 1249, 1250, 1251, 1301, 1302, 1303] (by decide +kernel) (by decide +kernel)
set_option maxRecDepth 20000 in
theorem gL_law_X7_holds : GoodIn wsL_law (wsV RL 35 RX7 yX7_holds wsX7_holds) := goodIn_app (goodIn_of _ (by decide +kernel)) ggL_law_X7_holds
set_option maxRecDepth 20000 in
theorem ggL_law_X8_holds : GoodIn wsL_law wsX8_holds := goodIn_r _ [235, 153, 106, 107, 112, 156, 157, 5, 158, 1252, 1253, 1254, 1255, 1256, 1257, 1258, 1259, 1260, 1261, 1262, 1263, 1264, 1265, 1266, 1267, 1268, 1269, 1270, 1271, 1272, 1273, 1274, 1275, 1276, 1277, 1278, 1279, 1280, 1281, 1282, 1283, 1284, 1285, 1286, 1287, 1288] (by decide +kernel) (by decide +kernel)
set_option maxRecDepth 20000 in
theorem gL_law_X8_holds : GoodIn wsL_law (wsV RL 39 RX8 yX8_holds wsX8_holds) := goodIn_app (goodIn_of _ (by decide +kernel)) ggL_law_X8_holds
set_option maxRecDepth 20000 in
theorem ggL_law_X7_show : GoodIn wsL_law wsX7_show := goodIn_r _ [239, 21, 137, 138, 2, 139, 240, 241, 242, 243, 16, 244, 140, 141, 142, 143, 45, 245, 246, 247, 23, 248, 77, 148, 249, 250, 251, 252, 1240, 1241, 1242, 1243, 1244, 1245, 1246, 1247, 1248, 1249, 1250, 1251, 1289, 1290, 1291, 1292, 1293, 1294, 1295, 1296, 1297, 1298, 1299, 1300, 1301, 1302, 1303] (by decide +kernel) (by decide +kernel)
set_option maxRecDepth 20000 in
theorem gL_law_X7_show : GoodIn wsL_law (wsV RL 40 RX7 yX7_show wsX7_show) := goodIn_app (goodIn_of _ (by decide +kernel)) ggL_law_X7_show
set_option maxRecDepth 20000 in
theorem ggL_law_X8_show : GoodIn wsL_law wsX8_show := goodIn_r _ [256, 153, 106, 112, 156, 157, 5, 158, 257, 258, 259, 260, 261, 159, 160, 161, 162, 114, 1252, 1253, 1254, 1255, 1256, 1257, 1258, 1259, 1260, 1261, 1262, 1263, 1264, 1265, 1266, 1267, 1268, 1269, 1270, 1271, 1272, 1273, 1274, 1275, 1276, 1277, 1278, 1279, 1280, 1281, 1282, 1283, 1284, 1285, 1286, 1287, 1288] (by decide +kernel) (by decide +kernel)
set_option maxRecDepth 20000 in
theorem gL_law_X8_show : GoodIn wsL_law (wsV RL 44 RX8 yX8_show wsX8_show) := goodIn_app (goodIn_of _ (by decide +kernel)) ggL_law_X8_show
set_option maxRecDepth 20000 in
theorem ggL_law_X7_says : GoodIn wsL_law wsX7_says := goodIn_r _ [265, 21, 16, 266, 267, 17, 268, 137, 138, 2, 139, 269, 270, 271, 140, 141, 142, 143, 45, 272, 273, 274, 23, 275, 77, 175, 176, 177, 178, 276, 277, 278, 279, 240, 241, 242, 243, 244, 280, 281, 282, 283, 284, 285, 286, 287, 288, 289, 15, 290, 50, 51, 291, 204, 205, 206, 52, 292, 53, 54, 55, 56, 57, 293, 58, 59, 294, 295, 296, 297, 298, 299, 300, 301, 302, 303, 304, 305, 306, 307, 308, 309, 310, 311, 312, 313, 314, 315, 316, 317, 318, 319, 320, 321, 322, 323, 324, 325, 326, 327, 328, 329, 330, 331, 332, 333, 68, 69, 334, 335, 336, 337, 338, 339, 340, 341, 1240, 1241, 1242, 1243, 1244, 1245, 1246, 1247, 1248, 1249, 1250, 1251, 1289, 1290, 1291, 1292, 1293, 1294, 1295, 1296, 1297, 1298, 1299, 1300, 1301, 1302, 1303] (by decide +kernel) (by decide +kernel)
set_option maxRecDepth 20000 in
theorem gL_law_X7_says : GoodIn wsL_law (wsV RL 45 RX7 yX7_says wsX7_says) := goodIn_app (goodIn_of _ (by decide +kernel)) ggL_law_X7_says
set_option maxRecDepth 20000 in
theorem ggL_law_X8_says : GoodIn wsL_law wsX8_says := goodIn_r _ [345, 153, 346, 106, 117, 112, 118, 126, 156, 157, 5, 158, 159, 160, 161, 162, 114, 347, 348, 349, 350, 351, 352, 353, 261, 121, 354, 355, 356, 357, 358, 359, 127, 360, 361, 362, 363, 364, 365, 120, 119, 366, 367, 368, 369, 116, 370, 371, 372, 373, 374, 375, 376, 377, 128, 378, 379, 380, 381, 115, 125, 382, 383, 384, 385, 1252, 1253, 1254, 1255, 1256, 1257, 1258, 1259, 1260, 1261, 1262, 1263, 1264, 1265, 1266, 1267, 1268, 1269, 1270, 1271, 1272, 1273, 1274, 1275, 1276, 1277, 1278, 1279, 1280, 1281, 1282, 1283, 1284, 1285, 1286, 1287, 1288] (by decide +kernel) (by decide +kernel)
set_option maxRecDepth 20000 in
theorem gL_law_X8_says : GoodIn wsL_law (wsV RL 48 RX8 yX8_says wsX8_says) := goodIn_app (goodIn_of _ (by decide +kernel)) ggL_law_X8_says
set_option maxRecDepth 20000 in
theorem ggL_law_X7_places : GoodIn wsL_law wsX7_places := goodIn_r _ [389, 16, 390, 140, 141, 142, 2, 143, 45, 1240, 1241, 1242, 1243, 1244, 1245, 1246, 1247, 1248, 1249, 1250, 1251, 1289, 1290, 1291, 1292, 1293, 1294, 1295, 1296, 1297, 1298, 1299, 1300] (by decide +kernel) (by decide +kernel)
set_option maxRecDepth 20000 in
theorem gL_law_X7_places : GoodIn wsL_law (wsV RL 49 RX7 yX7_places wsX7_places) := goodIn_app (goodIn_of _ (by decide +kernel)) ggL_law_X7_places
set_option maxRecDepth 20000 in
theorem ggL_law_X8_places : GoodIn wsL_law wsX8_places := goodIn_r _ [394, 115, 395, 156, 157, 5, 158, 159, 160, 161, 162, 114, 1252, 1253, 1254, 1255, 1256, 1257, 1258, 1259, 1260, 1261, 1262, 1263, 1264, 1265, 1266, 1267, 1268, 1269, 1270, 1271, 1272, 1273, 1274, 1275, 1276, 1277, 1278, 1279, 1280, 1281, 1282, 1283, 1284, 1285, 1286, 1287, 1288] (by decide +kernel) (by decide +kernel)
set_option maxRecDepth 20000 in
theorem gL_law_X8_places : GoodIn wsL_law (wsV RL 52 RX8 yX8_places wsX8_places) := goodIn_app (goodIn_of _ (by decide +kernel)) ggL_law_X8_places
set_option maxRecDepth 20000 in
theorem ggL_law_X7_way : GoodIn wsL_law wsX7_way := goodIn_r _ [399, 16, 400, 401, 402, 2, 403, 404, 405, 406, 407, 390, 140, 141, 142, 143, 45, 408, 327, 328, 15, 329, 51, 409, 410, 411, 412, 413, 61, 62, 63, 64, 65, 66, 67, 52, 68, 69, 70, 71, 72, 73, 1240, 1241, 1242, 1243, 1244, 1245, 1246, 1247, 1248, 1249, 1250, 1251, 1289, 1290, 1291, 1292, 1293, 1294, 1295, 1296, 1297, 1298, 1299, 1300] (by decide +kernel) (by decide +kernel)
set_option maxRecDepth 20000 in
theorem gL_law_X7_way : GoodIn wsL_law (wsV RL 53 RX7 yX7_way wsX7_way) := goodIn_app (goodIn_of _ (by decide +kernel)) ggL_law_X7_way
set_option maxRecDepth 20000 in
theorem ggL_law_X8_way : GoodIn wsL_law wsX8_way := goodIn_r _ [417, 116, 418, 419, 420, 5, 421, 422, 423, 424, 425, 115, 156, 157, 158, 159, 160, 161, 162, 114, 426, 427, 428, 429, 1252, 1253, 1254, 1255, 1256, 1257, 1258, 1259, 1260, 1261, 1262, 1263, 1264, 1265, 1266, 1267, 1268, 1269, 1270, 1271, 1272, 1273, 1274, 1275, 1276, 1277, 1278, 1279, 1280, 1281, 1282, 1283, 1284, 1285, 1286, 1287, 1288] (by decide +kernel) (by decide +kernel)
set_option maxRecDepth 20000 in
theorem gL_law_X8_way : GoodIn wsL_law (wsV RL 57 RX8 yX8_way wsX8_way) := goodIn_app (goodIn_of _ (by decide +kernel)) ggL_law_X8_way
set_option maxRecDepth 20000 in
theorem ggL_law_X7_person : GoodIn wsL_law wsX7_person := goodIn_r _ [433, 16, 244, 269, 270, 2, 271, 404, 405, 406, 407, 390, 140, 141, 142, 143, 45, 434, 435, 436, 15, 437, 292, 53, 54, 55, 56, 57, 1240, 1241, 1242, 1243, 1244, 1245, 1246, 1247, 1248, 1249, 1250, 1251, 1289, 1290, 1291, 1292, 1293, 1294, 1295, 1296, 1297, 1298, 1299, 1300] (by decide +kernel) (by decide +kernel)
set_option maxRecDepth 20000 in
theorem gL_law_X7_person : GoodIn wsL_law (wsV RL 58 RX7 yX7_person wsX7_person) := goodIn_app (goodIn_of _ (by decide +kernel)) ggL_law_X7_person
set_option maxRecDepth 20000 in
theorem ggL_law_X8_person : GoodIn wsL_law wsX8_person := goodIn_r _ [441, 346, 442, 261, 156, 157, 5, 158, 422, 423, 424, 425, 115, 159, 160, 161, 162, 114, 443, 444, 445, 446, 117, 118, 119, 120, 121, 1252, 1253, 1254, 1255, 1256, 1257, 1258, 1259, 1260, 1261, 1262, 1263, 1264, 1265, 1266, 1267, 1268, 1269, 1270, 1271, 1272, 1273, 1274, 1275, 1276, 1277, 1278, 1279, 1280, 1281, 1282, 1283, 1284, 1285, 1286, 1287, 1288] (by decide +kernel) (by decide +kernel)
set_option maxRecDepth 20000 in
theorem gL_law_X8_person : GoodIn wsL_law (wsV RL 62 RX8 yX8_person wsX8_person) := goodIn_app (goodIn_of _ (by decide +kernel)) ggL_law_X8_person
set_option maxRecDepth 20000 in
theorem ggL_law_X7_put : GoodIn wsL_law wsX7_put := goodIn_r _ [450, 16, 268, 451, 452, 240, 241, 242, 2, 243, 244, 404, 405, 406, 407, 390, 140, 141, 142, 143, 45, 1240, 1241, 1242, 1243, 1244, 1245, 1246, 1247, 1248, 1249, 1250, 1251, 1289, 1290, 1291, 1292, 1293, 1294, 1295, 1296, 1297, 1298, 1299, 1300] (by decide +kernel) (by decide +kernel)
set_option maxRecDepth 20000 in
theorem gL_law_X7_put : GoodIn wsL_law (wsV RL 63 RX7 yX7_put wsX7_put) := goodIn_app (goodIn_of _ (by decide +kernel)) ggL_law_X7_put
set_option maxRecDepth 20000 in
theorem ggL_law_X8_put : GoodIn wsL_law wsX8_put := goodIn_r _ [456, 457, 121, 119, 120, 257, 258, 259, 5, 260, 261, 156, 157, 158, 422, 423, 424, 425, 115, 159, 160, 161, 162, 114, 1252, 1253, 1254, 1255, 1256, 1257, 1258, 1259, 1260, 1261, 1262, 1263, 1264, 1265, 1266, 1267, 1268, 1269, 1270, 1271, 1272, 1273, 1274, 1275, 1276, 1277, 1278, 1279, 1280, 1281, 1282, 1283, 1284, 1285, 1286, 1287, 1288] (by decide +kernel) (by decide +kernel)
set_option maxRecDepth 20000 in
theorem gL_law_X8_put : GoodIn wsL_law (wsV RL 66 RX8 yX8_put wsX8_put) := goodIn_app (goodIn_of _ (by decide +kernel)) ggL_law_X8_put
set_option maxRecDepth 20000 in
theorem ggL_law_X7_tell : GoodIn wsL_law wsX7_tell := goodIn_r _ [461, 16, 462, 463, 140, 141, 142, 2, 143, 45, 1240, 1241, 1242, 1243, 1244, 1245, 1246, 1247, 1248, 1249, 1250, 1251, 1289, 1290, 1291, 1292, 1293, 1294, 1295, 1296, 1297, 1298, 1299, 1300] (by decide +kernel) (by decide +kernel)
set_option maxRecDepth 20000 in
theorem gL_law_X7_tell : GoodIn wsL_law (wsV RL 67 RX7 yX7_tell wsX7_tell) := goodIn_app (goodIn_of _ (by decide +kernel)) ggL_law_X7_tell
set_option maxRecDepth 20000 in
theorem ggL_law_X8_tell : GoodIn wsL_law wsX8_tell := goodIn_r _ [467, 468, 395, 354, 122, 156, 157, 5, 158, 159, 160, 161, 162, 114, 1252, 1253, 1254, 1255, 1256, 1257, 1258, 1259, 1260, 1261, 1262, 1263, 1264, 1265, 1266, 1267, 1268, 1269, 1270, 1271, 1272, 1273, 1274, 1275, 1276, 1277, 1278, 1279, 1280, 1281, 1282, 1283, 1284, 1285, 1286, 1287, 1288] (by decide +kernel) (by decide +kernel)
set_option maxRecDepth 20000 in
theorem gL_law_X8_tell : GoodIn wsL_law (wsV RL 70 RX8 yX8_tell wsX8_tell) := goodIn_app (goodIn_of _ (by decide +kernel)) ggL_law_X8_tell
set_option maxRecDepth 20000 in
theorem ggL_law_X7_feed : GoodIn wsL_law wsX7_feed := goodIn_r _ [472, 27, 473, 140, 141, 142, 2, 143, 45, 474, 475, 476, 26, 477, 478, 83, 1240, 1241, 1242, 1243, 1244, 1245, 1246, 1247, 1248, 1249, 1250, 1251, 1304, 1305] (by decide +kernel) (by decide +kernel)
set_option maxRecDepth 20000 in
theorem gL_law_X7_feed : GoodIn wsL_law (wsV RL 71 RX7 yX7_feed wsX7_feed) := goodIn_app (goodIn_of _ (by decide +kernel)) ggL_law_X7_feed
set_option maxRecDepth 20000 in
theorem ggL_law_X8_feed : GoodIn wsL_law wsX8_feed := goodIn_r _ [482, 483, 484, 113, 156, 157, 5, 158, 159, 160, 161, 162, 114, 1252, 1253, 1254, 1255, 1256, 1257, 1258, 1259, 1260, 1261, 1262, 1263, 1264, 1265, 1266, 1267, 1268, 1269, 1270, 1271, 1272, 1273, 1274, 1275, 1276, 1277, 1278, 1279, 1280, 1281, 1282, 1283, 1284, 1285, 1286, 1287, 1288] (by decide +kernel) (by decide +kernel)
set_option maxRecDepth 20000 in
theorem gL_law_X8_feed : GoodIn wsL_law (wsV RL 74 RX8 yX8_feed wsX8_feed) := goodIn_app (goodIn_of _ (by decide +kernel)) ggL_law_X8_feed
set_option maxRecDepth 20000 in
theorem ggL_law_X7_wipe : GoodIn wsL_law wsX7_wipe := goodIn_r _ [488, 27, 473, 1240, 1241, 1242, 1243, 1244, 1245, 1246, 1247, 1248, 1249, 1250, 1251, 1304, 1305] (by decide +kernel) (by decide +kernel)
set_option maxRecDepth 20000 in
theorem gL_law_X7_wipe : GoodIn wsL_law (wsV RL 75 RX7 yX7_wipe wsX7_wipe) := goodIn_app (goodIn_of _ (by decide +kernel)) ggL_law_X7_wipe
set_option maxRecDepth 20000 in
theorem ggL_law_X8_wipe : GoodIn wsL_law wsX8_wipe := goodIn_r _ [492, 484, 1252, 1253, 1254, 1255, 1256, 1257, 1258, 1259, 1260, 1261, 1262, 1263, 1264, 1265, 1266, 1267, 1268, 1269, 1270, 1271, 1272, 1273, 1274, 1275, 1276, 1277, 1278, 1279, 1280, 1281, 1282, 1283, 1284, 1285, 1286, 1287, 1288] (by decide +kernel) (by decide +kernel)
set_option maxRecDepth 20000 in
theorem gL_law_X8_wipe : GoodIn wsL_law (wsV RL 79 RX8 yX8_wipe wsX8_wipe) := goodIn_app (goodIn_of _ (by decide +kernel)) ggL_law_X8_wipe
set_option maxRecDepth 20000 in
theorem ggL_law_X7_town : GoodIn wsL_law wsX7_town := goodIn_r _ [496, 18, 16, 31, 27, 473, 497, 287, 288, 289, 15, 290, 50, 51, 291, 204, 205, 206, 52, 292, 53, 54, 55, 56, 57, 293, 58, 59, 498, 499, 500, 30, 501, 502, 88, 503, 504, 505, 506, 507, 508, 509, 510, 511, 512, 513, 514, 515, 516, 517, 89, 518, 519, 520, 521, 522, 523, 524, 525, 526, 527, 528, 529, 530, 531, 532, 533, 534, 535, 536, 537, 538, 539, 540, 541, 542, 543, 544, 545, 546, 547, 548, 549, 550, 551, 552, 553, 554, 555, 556, 557, 558, 559, 560, 561, 562, 563, 564, 565, 566, 567, 568, 569, 570, 571, 572, 573, 574, 575, 576, 577, 578, 579, 580, 581, 582, 583, 584, 585, 586, 587, 588, 589, 590, 591, 592, 593, 594, 595, 596, 597, 598, 599, 600, 601, 602, 603, 604, 605, 410, 411, 412, 606, 607, 608, 609, 610, 435, 436, 437, 611, 612, 613, 614, 615, 616, 617, 618, 619, 620, 621, 622, 623, 624, 625, 140, 141, 142, 2, 143, 45, 413, 61, 62, 63, 64, 65, 66, 67, 68, 69, 70, 71, 72, 73, 1240, 1241, 1242, 1243, 1244, 1245, 1246, 1247, 1248, 1249, 1250, 1251, 1304, 1305, 1306, 1307, 1308, 1309, 1310, 1311, 1289, 1290, 1291, 1292, 1293, 1294, 1295, 1296, 1297, 1298, 1299, 1300] (by decide +kernel) (by decide +kernel)
set_option maxRecDepth 20000 in
theorem gL_law_X7_town : GoodIn wsL_law (wsV RL 80 RX7 yX7_town wsX7_town) := goodIn_app (goodIn_of _ (by decide +kernel)) ggL_law_X7_town
set_option maxRecDepth 20000 in
theorem ggL_law_X8_town : GoodIn wsL_law wsX8_town := goodIn_r _ [629, 630, 631, 4, 5, 484, 632, 633, 634, 103, 104, 105, 11, 12, 44, 106, 107, 108, 109, 78, 110, 111, 112, 113, 114, 115, 116, 117, 118, 119, 120, 121, 122, 123, 124, 125, 126, 127, 128, 129, 130, 131, 132, 635, 636, 637, 638, 261, 354, 639, 640, 641, 642, 643, 644, 645, 646, 647, 648, 649, 650, 651, 652, 653, 654, 655, 656, 657, 658, 659, 660, 661, 662, 663, 664, 665, 666, 667, 668, 544, 545, 546, 547, 548, 549, 550, 551, 552, 553, 554, 669, 556, 557, 558, 559, 560, 561, 562, 563, 564, 565, 566, 567, 568, 569, 570, 571, 572, 573, 574, 575, 576, 577, 578, 579, 580, 581, 582, 583, 584, 585, 586, 587, 588, 589, 590, 591, 670, 671, 672, 673, 674, 675, 676, 677, 156, 157, 158, 678, 679, 680, 681, 682, 683, 684, 685, 426, 427, 428, 429, 686, 687, 688, 689, 443, 444, 445, 446, 159, 160, 161, 162, 1252, 1253, 1254, 1255, 1256, 1257, 1258, 1259, 1260, 1261, 1262, 1263, 1264, 1265, 1266, 1267, 1268, 1269, 1270, 1271, 1272, 1273, 1274, 1275, 1276, 1277, 1278, 1279, 1280, 1281, 1282, 1283, 1284, 1285, 1286, 1287, 1288] (by decide +kernel) (by decide +kernel)
set_option maxRecDepth 20000 in
theorem gL_law_X8_town : GoodIn wsL_law (wsV RL 83 RX8 yX8_town wsX8_town) := goodIn_app (goodIn_of _ (by decide +kernel)) ggL_law_X8_town
set_option maxRecDepth 20000 in
theorem ggL_law_X7_personOf : GoodIn wsL_law wsX7_personOf := goodIn_r _ [693, 16, 266, 267, 451, 452, 268, 240, 241, 242, 2, 243, 244, 140, 141, 142, 143, 45, 694, 307, 308, 15, 309, 53, 1240, 1241, 1242, 1243, 1244, 1245, 1246, 1247, 1248, 1249, 1250, 1251, 1289, 1290, 1291, 1292, 1293, 1294, 1295, 1296, 1297, 1298, 1299, 1300] (by decide +kernel) (by decide +kernel)
set_option maxRecDepth 20000 in
theorem gL_law_X7_personOf : GoodIn wsL_law (wsV RL 84 RX7 yX7_personOf wsX7_personOf) := goodIn_app (goodIn_of _ (by decide +kernel)) ggL_law_X7_personOf
set_option maxRecDepth 20000 in
theorem ggL_law_X8_personOf : GoodIn wsL_law wsX8_personOf := goodIn_r _ [698, 346, 117, 118, 119, 120, 121, 257, 258, 259, 5, 260, 261, 156, 157, 158, 159, 160, 161, 162, 114, 374, 375, 376, 377, 128, 1252, 1253, 1254, 1255, 1256, 1257, 1258, 1259, 1260, 1261, 1262, 1263, 1264, 1265, 1266, 1267, 1268, 1269, 1270, 1271, 1272, 1273, 1274, 1275, 1276, 1277, 1278, 1279, 1280, 1281, 1282, 1283, 1284, 1285, 1286, 1287, 1288] (by decide +kernel) (by decide +kernel)
set_option maxRecDepth 20000 in
theorem gL_law_X8_personOf : GoodIn wsL_law (wsV RL 87 RX8 yX8_personOf wsX8_personOf) := goodIn_app (goodIn_of _ (by decide +kernel)) ggL_law_X8_personOf
set_option maxRecDepth 20000 in
theorem ggL_law_X7_isWay : GoodIn wsL_law wsX7_isWay := goodIn_r _ [702, 16, 400, 401, 402, 2, 403, 404, 405, 406, 407, 390, 140, 141, 142, 143, 45, 408, 327, 328, 15, 329, 51, 1240, 1241, 1242, 1243, 1244, 1245, 1246, 1247, 1248, 1249, 1250, 1251, 1289, 1290, 1291, 1292, 1293, 1294, 1295, 1296, 1297, 1298, 1299, 1300] (by decide +kernel) (by decide +kernel)
set_option maxRecDepth 20000 in
theorem gL_law_X7_isWay : GoodIn wsL_law (wsV RL 88 RX7 yX7_isWay wsX7_isWay) := goodIn_app (goodIn_of _ (by decide +kernel)) ggL_law_X7_isWay
set_option maxRecDepth 20000 in
theorem ggL_law_X8_isWay : GoodIn wsL_law wsX8_isWay := goodIn_r _ [706, 116, 418, 419, 420, 5, 421, 422, 423, 424, 425, 115, 156, 157, 158, 159, 160, 161, 162, 114, 1252, 1253, 1254, 1255, 1256, 1257, 1258, 1259, 1260, 1261, 1262, 1263, 1264, 1265, 1266, 1267, 1268, 1269, 1270, 1271, 1272, 1273, 1274, 1275, 1276, 1277, 1278, 1279, 1280, 1281, 1282, 1283, 1284, 1285, 1286, 1287, 1288] (by decide +kernel) (by decide +kernel)
set_option maxRecDepth 20000 in
theorem gL_law_X8_isWay : GoodIn wsL_law (wsV RL 91 RX8 yX8_isWay wsX8_isWay) := goodIn_app (goodIn_of _ (by decide +kernel)) ggL_law_X8_isWay
set_option maxRecDepth 20000 in
theorem ggL_law_X7_far : GoodIn wsL_law wsX7_far := goodIn_r _ [710, 16, 404, 405, 406, 2, 407, 390, 140, 141, 142, 143, 45, 711, 323, 324, 15, 325, 52, 1240, 1241, 1242, 1243, 1244, 1245, 1246, 1247, 1248, 1249, 1250, 1251, 1289, 1290, 1291, 1292, 1293, 1294, 1295, 1296, 1297, 1298, 1299, 1300] (by decide +kernel) (by decide +kernel)
set_option maxRecDepth 20000 in
theorem gL_law_X7_far : GoodIn wsL_law (wsV RL 92 RX7 yX7_far wsX7_far) := goodIn_app (goodIn_of _ (by decide +kernel)) ggL_law_X7_far
set_option maxRecDepth 20000 in
theorem ggL_law_X8_far : GoodIn wsL_law wsX8_far := goodIn_r _ [715, 125, 422, 423, 424, 5, 425, 115, 156, 157, 158, 159, 160, 161, 162, 114, 382, 383, 384, 385, 116, 1252, 1253, 1254, 1255, 1256, 1257, 1258, 1259, 1260, 1261, 1262, 1263, 1264, 1265, 1266, 1267, 1268, 1269, 1270, 1271, 1272, 1273, 1274, 1275, 1276, 1277, 1278, 1279, 1280, 1281, 1282, 1283, 1284, 1285, 1286, 1287, 1288] (by decide +kernel) (by decide +kernel)
set_option maxRecDepth 20000 in
theorem gL_law_X8_far : GoodIn wsL_law (wsV RL 95 RX8 yX8_far wsX8_far) := goodIn_app (goodIn_of _ (by decide +kernel)) ggL_law_X8_far
set_option maxRecDepth 20000 in
theorem ggL_law_X7_where : GoodIn wsL_law wsX7_where := goodIn_r _ [719, 17, 268, 240, 241, 242, 2, 243, 16, 244, 720, 721, 722, 140, 141, 142, 143, 45, 283, 284, 285, 286, 287, 288, 289, 15, 290, 50, 51, 291, 204, 205, 206, 52, 292, 53, 54, 55, 56, 57, 293, 58, 59, 294, 295, 296, 297, 298, 299, 300, 301, 302, 303, 304, 305, 306, 307, 308, 309, 310, 311, 312, 313, 314, 315, 316, 317, 318, 319, 320, 321, 322, 323, 324, 325, 326, 327, 328, 329, 330, 331, 332, 333, 68, 69, 334, 335, 336, 337, 338, 339, 340, 341, 1240, 1241, 1242, 1243, 1244, 1245, 1246, 1247, 1248, 1249, 1250, 1251, 1289, 1290, 1291, 1292, 1293, 1294, 1295, 1296, 1297, 1298, 1299, 1300] (by decide +kernel) (by decide +kernel)
set_option maxRecDepth 20000 in
theorem gL_law_X7_where : GoodIn wsL_law (wsV RL 96 RX7 yX7_where wsX7_where) := goodIn_app (goodIn_of _ (by decide +kernel)) ggL_law_X7_where
set_option maxRecDepth 20000 in
theorem ggL_law_X8_where : GoodIn wsL_law wsX8_where := goodIn_r _ [726, 126, 257, 258, 259, 5, 260, 261, 156, 157, 158, 727, 728, 729, 730, 159, 160, 161, 162, 114, 731, 732, 733, 734, 350, 351, 352, 353, 121, 354, 355, 356, 357, 358, 359, 127, 360, 361, 362, 363, 117, 364, 365, 120, 119, 366, 367, 368, 369, 116, 370, 371, 372, 373, 374, 375, 376, 377, 128, 378, 379, 380, 381, 115, 125, 382, 383, 384, 385, 1252, 1253, 1254, 1255, 1256, 1257, 1258, 1259, 1260, 1261, 1262, 1263, 1264, 1265, 1266, 1267, 1268, 1269, 1270, 1271, 1272, 1273, 1274, 1275, 1276, 1277, 1278, 1279, 1280, 1281, 1282, 1283, 1284, 1285, 1286, 1287, 1288] (by decide +kernel) (by decide +kernel)
set_option maxRecDepth 20000 in
theorem gL_law_X8_where : GoodIn wsL_law (wsV RL 99 RX8 yX8_where wsX8_where) := goodIn_app (goodIn_of _ (by decide +kernel)) ggL_law_X8_where
set_option maxRecDepth 20000 in
theorem ggL_law_X7_shines : GoodIn wsL_law wsX7_shines := goodIn_r _ [738, 17, 390, 720, 721, 2, 722, 140, 141, 142, 143, 45, 283, 284, 285, 286, 16, 287, 288, 289, 15, 290, 50, 51, 291, 204, 205, 206, 52, 292, 53, 54, 55, 56, 57, 293, 58, 59, 294, 295, 296, 297, 298, 299, 300, 301, 302, 303, 304, 305, 306, 307, 308, 309, 310, 311, 312, 313, 314, 315, 316, 317, 318, 319, 320, 321, 322, 323, 324, 325, 326, 327, 328, 329, 330, 331, 332, 333, 68, 69, 334, 335, 336, 337, 338, 339, 340, 341, 739, 740, 741, 742, 743, 744, 745, 746, 747, 748, 749, 750, 751, 752, 753, 754, 1240, 1241, 1242, 1243, 1244, 1245, 1246, 1247, 1248, 1249, 1250, 1251, 1289, 1290, 1291, 1292, 1293, 1294, 1295, 1296, 1297, 1298, 1299, 1300] (by decide +kernel) (by decide +kernel)
set_option maxRecDepth 20000 in
theorem gL_law_X7_shines : GoodIn wsL_law (wsV RL 100 RX7 yX7_shines wsX7_shines) := goodIn_app (goodIn_of _ (by decide +kernel)) ggL_law_X7_shines
set_option maxRecDepth 20000 in
theorem ggL_law_X8_shines : GoodIn wsL_law wsX8_shines := goodIn_r _ [758, 457, 727, 728, 5, 729, 730, 156, 157, 158, 159, 160, 161, 162, 114, 731, 732, 733, 734, 350, 351, 352, 353, 261, 126, 121, 354, 355, 356, 357, 358, 359, 127, 360, 361, 362, 363, 117, 364, 365, 120, 119, 366, 367, 368, 369, 116, 370, 371, 372, 373, 374, 375, 376, 377, 128, 378, 379, 380, 381, 115, 125, 382, 383, 384, 385, 759, 760, 761, 762, 763, 764, 765, 766, 767, 768, 769, 1252, 1253, 1254, 1255, 1256, 1257, 1258, 1259, 1260, 1261, 1262, 1263, 1264, 1265, 1266, 1267, 1268, 1269, 1270, 1271, 1272, 1273, 1274, 1275, 1276, 1277, 1278, 1279, 1280, 1281, 1282, 1283, 1284, 1285, 1286, 1287, 1288] (by decide +kernel) (by decide +kernel)
set_option maxRecDepth 20000 in
theorem gL_law_X8_shines : GoodIn wsL_law (wsV RL 103 RX8 yX8_shines wsX8_shines) := goodIn_app (goodIn_of _ (by decide +kernel)) ggL_law_X8_shines
set_option maxRecDepth 20000 in
theorem ggL_law_X7_crowd : GoodIn wsL_law wsX7_crowd := goodIn_r _ [773, 17, 404, 405, 406, 2, 407, 16, 390, 720, 721, 722, 140, 141, 142, 143, 45, 283, 284, 285, 286, 287, 288, 289, 15, 290, 50, 51, 291, 204, 205, 206, 52, 292, 53, 54, 55, 56, 57, 293, 58, 59, 294, 295, 296, 297, 298, 299, 300, 301, 302, 303, 304, 305, 306, 307, 308, 309, 310, 311, 312, 313, 314, 315, 316, 317, 318, 319, 320, 321, 322, 323, 324, 325, 326, 327, 328, 329, 330, 331, 332, 333, 68, 69, 334, 335, 336, 337, 338, 339, 340, 341, 774, 775, 776, 777, 778, 779, 780, 781, 1240, 1241, 1242, 1243, 1244, 1245, 1246, 1247, 1248, 1249, 1250, 1251, 1289, 1290, 1291, 1292, 1293, 1294, 1295, 1296, 1297, 1298, 1299, 1300] (by decide +kernel) (by decide +kernel)
set_option maxRecDepth 20000 in
theorem gL_law_X7_crowd : GoodIn wsL_law (wsV RL 104 RX7 yX7_crowd wsX7_crowd) := goodIn_app (goodIn_of _ (by decide +kernel)) ggL_law_X7_crowd
set_option maxRecDepth 20000 in
theorem ggL_law_X8_crowd : GoodIn wsL_law wsX8_crowd := goodIn_r _ [785, 422, 423, 424, 5, 425, 115, 156, 157, 158, 727, 728, 729, 730, 159, 160, 161, 162, 114, 731, 732, 733, 734, 350, 351, 352, 353, 261, 126, 121, 354, 355, 356, 357, 358, 359, 127, 360, 361, 362, 363, 117, 364, 365, 120, 119, 366, 367, 368, 369, 116, 370, 371, 372, 373, 374, 375, 376, 377, 128, 378, 379, 380, 381, 125, 382, 383, 384, 385, 786, 787, 788, 789, 763, 764, 765, 1252, 1253, 1254, 1255, 1256, 1257, 1258, 1259, 1260, 1261, 1262, 1263, 1264, 1265, 1266, 1267, 1268, 1269, 1270, 1271, 1272, 1273, 1274, 1275, 1276, 1277, 1278, 1279, 1280, 1281, 1282, 1283, 1284, 1285, 1286, 1287, 1288] (by decide +kernel) (by decide +kernel)
set_option maxRecDepth 20000 in
theorem gL_law_X8_crowd : GoodIn wsL_law (wsV RL 107 RX8 yX8_crowd wsX8_crowd) := goodIn_app (goodIn_of _ (by decide +kernel)) ggL_law_X8_crowd
set_option maxRecDepth 20000 in
theorem ggL_law_X7_starts : GoodIn wsL_law wsX7_starts := goodIn_r _ [793, 16, 390, 17, 268, 21, 240, 241, 242, 2, 243, 244, 794, 795, 796, 797, 798, 167, 168, 169, 170, 137, 138, 139, 171, 172, 173, 23, 174, 77, 175, 176, 177, 178, 140, 141, 142, 143, 45, 287, 288, 289, 15, 290, 50, 51, 291, 204, 205, 206, 52, 292, 53, 54, 55, 56, 57, 293, 58, 59, 799, 800, 801, 802, 202, 179, 180, 181, 182, 148, 739, 740, 741, 742, 302, 303, 304, 305, 306, 307, 308, 309, 803, 299, 300, 301, 310, 311, 312, 313, 314, 315, 316, 317, 318, 319, 320, 321, 322, 323, 324, 325, 326, 327, 328, 329, 330, 331, 332, 333, 68, 69, 334, 335, 336, 337, 338, 339, 340, 341, 1240, 1241, 1242, 1243, 1244, 1245, 1246, 1247, 1248, 1249, 1250, 1251, 1289, 1290, 1291, 1292, 1293, 1294, 1295, 1296, 1297, 1298, 1299, 1300, 1301, 1302, 1303] (by decide +kernel) (by decide +kernel)
set_option maxRecDepth 20000 in
theorem gL_law_X7_starts : GoodIn wsL_law (wsV RL 108 RX7 yX7_starts wsX7_starts) := goodIn_app (goodIn_of _ (by decide +kernel)) ggL_law_X7_starts
set_option maxRecDepth 20000 in
theorem ggL_law_X8_starts : GoodIn wsL_law wsX8_starts := goodIn_r _ [807, 121, 115, 257, 258, 259, 5, 260, 261, 156, 157, 158, 808, 809, 810, 811, 153, 155, 108, 159, 160, 161, 162, 114, 191, 192, 193, 194, 106, 812, 813, 814, 815, 110, 350, 351, 352, 353, 126, 354, 355, 759, 760, 761, 762, 374, 375, 376, 377, 128, 117, 356, 357, 358, 359, 127, 360, 361, 362, 363, 364, 365, 120, 119, 366, 367, 368, 369, 116, 370, 371, 372, 373, 378, 379, 380, 381, 125, 382, 383, 384, 385, 1252, 1253, 1254, 1255, 1256, 1257, 1258, 1259, 1260, 1261, 1262, 1263, 1264, 1265, 1266, 1267, 1268, 1269, 1270, 1271, 1272, 1273, 1274, 1275, 1276, 1277, 1278, 1279, 1280, 1281, 1282, 1283, 1284, 1285, 1286, 1287, 1288] (by decide +kernel) (by decide +kernel)
set_option maxRecDepth 20000 in
theorem gL_law_X8_starts : GoodIn wsL_law (wsV RL 111 RX8 yX8_starts wsX8_starts) := goodIn_app (goodIn_of _ (by decide +kernel)) ggL_law_X8_starts
set_option maxRecDepth 20000 in
theorem ggL_law_X7_kinds : GoodIn wsL_law wsX7_kinds := goodIn_r _ [819, 17, 16, 266, 21, 240, 241, 242, 2, 243, 244, 794, 795, 796, 797, 798, 167, 168, 169, 170, 137, 138, 139, 171, 172, 173, 23, 174, 77, 175, 176, 177, 178, 140, 141, 142, 143, 45, 287, 288, 289, 15, 290, 50, 51, 291, 204, 205, 206, 52, 292, 53, 54, 55, 56, 57, 293, 58, 59, 799, 800, 801, 802, 202, 179, 180, 181, 182, 148, 739, 740, 741, 742, 302, 303, 304, 305, 306, 307, 308, 309, 803, 299, 300, 301, 310, 311, 312, 313, 314, 315, 316, 317, 318, 319, 320, 321, 322, 323, 324, 325, 326, 327, 328, 329, 330, 331, 332, 333, 68, 69, 334, 335, 336, 337, 338, 339, 340, 341, 1240, 1241, 1242, 1243, 1244, 1245, 1246, 1247, 1248, 1249, 1250, 1251, 1289, 1290, 1291, 1292, 1293, 1294, 1295, 1296, 1297, 1298, 1299, 1300, 1301, 1302, 1303] (by decide +kernel) (by decide +kernel)
set_option maxRecDepth 20000 in
theorem gL_law_X7_kinds : GoodIn wsL_law (wsV RL 112 RX7 yX7_kinds wsX7_kinds) := goodIn_app (goodIn_of _ (by decide +kernel)) ggL_law_X7_kinds
set_option maxRecDepth 20000 in
theorem ggL_law_X8_kinds : GoodIn wsL_law wsX8_kinds := goodIn_r _ [823, 117, 257, 258, 259, 5, 260, 261, 156, 157, 158, 808, 809, 810, 811, 153, 155, 108, 159, 160, 161, 162, 114, 191, 192, 193, 194, 106, 812, 813, 814, 815, 110, 350, 351, 352, 353, 126, 121, 354, 355, 759, 760, 761, 762, 115, 374, 375, 376, 377, 128, 356, 357, 358, 359, 127, 360, 361, 362, 363, 364, 365, 120, 119, 366, 367, 368, 369, 116, 370, 371, 372, 373, 378, 379, 380, 381, 125, 382, 383, 384, 385, 1252, 1253, 1254, 1255, 1256, 1257, 1258, 1259, 1260, 1261, 1262, 1263, 1264, 1265, 1266, 1267, 1268, 1269, 1270, 1271, 1272, 1273, 1274, 1275, 1276, 1277, 1278, 1279, 1280, 1281, 1282, 1283, 1284, 1285, 1286, 1287, 1288] (by decide +kernel) (by decide +kernel)
set_option maxRecDepth 20000 in
theorem gL_law_X8_kinds : GoodIn wsL_law (wsV RL 115 RX8 yX8_kinds wsX8_kinds) := goodIn_app (goodIn_of _ (by decide +kernel)) ggL_law_X8_kinds
set_option maxRecDepth 20000 in
theorem ggL_law_X7_next : GoodIn wsL_law wsX7_next := goodIn_r _ [827, 16, 390, 17, 268, 39, 43, 828, 240, 241, 242, 2, 243, 244, 140, 141, 142, 143, 45, 287, 288, 289, 15, 290, 50, 51, 291, 204, 205, 206, 52, 292, 53, 54, 55, 56, 57, 293, 58, 59, 829, 830, 831, 38, 832, 98, 833, 740, 741, 742, 302, 303, 304, 305, 306, 307, 308, 309, 834, 299, 300, 301, 310, 311, 312, 313, 314, 315, 316, 317, 318, 319, 320, 321, 322, 323, 324, 325, 326, 327, 328, 329, 330, 331, 332, 333, 68, 69, 334, 335, 336, 337, 338, 339, 340, 341, 835, 836, 837, 42, 838, 839, 840, 841, 842, 843, 844, 845, 846, 847, 848, 849, 850, 851, 852, 853, 854, 855, 1240, 1241, 1242, 1243, 1244, 1245, 1246, 1247, 1248, 1249, 1250, 1251, 1289, 1290, 1291, 1292, 1293, 1294, 1295, 1296, 1297, 1298, 1299, 1300, 1315, 1316, 1314] (by decide +kernel) (by decide +kernel)
set_option maxRecDepth 20000 in
theorem gL_law_X7_next : GoodIn wsL_law (wsV RL 116 RX7 yX7_next wsX7_next) := goodIn_app (goodIn_of _ (by decide +kernel)) ggL_law_X7_next
set_option maxRecDepth 20000 in
theorem ggL_law_X8_next : GoodIn wsL_law wsX8_next := goodIn_r _ [859, 121, 115, 130, 257, 258, 259, 5, 260, 261, 156, 157, 158, 159, 160, 161, 162, 114, 350, 351, 352, 353, 126, 354, 355, 759, 760, 761, 762, 374, 375, 376, 377, 128, 117, 356, 357, 358, 359, 127, 360, 361, 362, 363, 364, 365, 120, 119, 366, 367, 368, 369, 116, 370, 371, 372, 373, 378, 379, 380, 381, 125, 382, 383, 384, 385, 860, 861, 862, 863, 1252, 1253, 1254, 1255, 1256, 1257, 1258, 1259, 1260, 1261, 1262, 1263, 1264, 1265, 1266, 1267, 1268, 1269, 1270, 1271, 1272, 1273, 1274, 1275, 1276, 1277, 1278, 1279, 1280, 1281, 1282, 1283, 1284, 1285, 1286, 1287, 1288] (by decide +kernel) (by decide +kernel)
set_option maxRecDepth 20000 in
theorem gL_law_X8_next : GoodIn wsL_law (wsV RL 119 RX8 yX8_next wsX8_next) := goodIn_app (goodIn_of _ (by decide +kernel)) ggL_law_X8_next
set_option maxRecDepth 20000 in
theorem ggL_law_X7_hidden : GoodIn wsL_law wsX7_hidden := goodIn_r _ [867, 17, 16, 35, 868, 404, 405, 406, 2, 407, 390, 140, 141, 142, 143, 45, 287, 288, 289, 15, 290, 50, 51, 291, 204, 205, 206, 52, 292, 53, 54, 55, 56, 57, 293, 58, 59, 869, 870, 871, 34, 872, 93, 94, 873, 303, 304, 305, 306, 307, 308, 309, 68, 69, 874, 875, 876, 877, 878, 71, 72, 73, 879, 299, 300, 301, 302, 310, 311, 312, 313, 314, 315, 316, 317, 318, 319, 320, 321, 322, 323, 324, 325, 326, 327, 328, 329, 330, 331, 332, 333, 334, 335, 336, 337, 338, 339, 340, 341, 880, 881, 882, 883, 884, 885, 886, 1240, 1241, 1242, 1243, 1244, 1245, 1246, 1247, 1248, 1249, 1250, 1251, 1312, 1313, 1289, 1290, 1291, 1292, 1293, 1294, 1295, 1296, 1297, 1298, 1299, 1300] (by decide +kernel) (by decide +kernel)
set_option maxRecDepth 20000 in
theorem gL_law_X7_hidden : GoodIn wsL_law (wsV RL 120 RX7 yX7_hidden wsX7_hidden) := goodIn_app (goodIn_of _ (by decide +kernel)) ggL_law_X7_hidden
set_option maxRecDepth 20000 in
theorem ggL_law_X8_hidden : GoodIn wsL_law wsX8_hidden := goodIn_r _ [890, 132, 422, 423, 424, 5, 425, 115, 156, 157, 158, 159, 160, 161, 162, 114, 891, 892, 893, 894, 131, 350, 351, 352, 353, 261, 126, 121, 354, 355, 766, 767, 768, 769, 759, 760, 761, 762, 374, 375, 376, 377, 128, 117, 356, 357, 358, 359, 127, 360, 361, 362, 363, 364, 365, 120, 119, 366, 367, 368, 369, 116, 370, 371, 372, 373, 378, 379, 380, 381, 125, 382, 383, 384, 385, 895, 896, 897, 898, 1252, 1253, 1254, 1255, 1256, 1257, 1258, 1259, 1260, 1261, 1262, 1263, 1264, 1265, 1266, 1267, 1268, 1269, 1270, 1271, 1272, 1273, 1274, 1275, 1276, 1277, 1278, 1279, 1280, 1281, 1282, 1283, 1284, 1285, 1286, 1287, 1288] (by decide +kernel) (by decide +kernel)
set_option maxRecDepth 20000 in
theorem gL_law_X8_hidden : GoodIn wsL_law (wsV RL 123 RX8 yX8_hidden wsX8_hidden) := goodIn_app (goodIn_of _ (by decide +kernel)) ggL_law_X8_hidden
set_option maxRecDepth 20000 in
theorem ggL_law_X7_find : GoodIn wsL_law wsX7_find := goodIn_r _ [902, 17, 240, 241, 242, 2, 243, 16, 244, 720, 721, 722, 140, 141, 142, 143, 45, 283, 284, 285, 286, 287, 288, 289, 15, 290, 50, 51, 291, 204, 205, 206, 52, 292, 53, 54, 55, 56, 57, 293, 58, 59, 294, 295, 296, 297, 298, 299, 300, 301, 302, 303, 304, 305, 306, 307, 308, 309, 310, 311, 312, 313, 314, 315, 316, 317, 318, 319, 320, 321, 322, 323, 324, 325, 326, 327, 328, 329, 330, 331, 332, 333, 68, 69, 334, 335, 336, 337, 338, 339, 340, 341, 694, 903, 904, 905, 906, 907, 908, 909, 910, 911, 749, 750, 751, 752, 753, 754, 1240, 1241, 1242, 1243, 1244, 1245, 1246, 1247, 1248, 1249, 1250, 1251, 1289, 1290, 1291, 1292, 1293, 1294, 1295, 1296, 1297, 1298, 1299, 1300] (by decide +kernel) (by decide +kernel)
set_option maxRecDepth 20000 in
theorem gL_law_X7_find : GoodIn wsL_law (wsV RL 124 RX7 yX7_find wsX7_find) := goodIn_app (goodIn_of _ (by decide +kernel)) ggL_law_X7_find
set_option maxRecDepth 20000 in
theorem ggL_law_X8_find : GoodIn wsL_law wsX8_find := goodIn_r _ [915, 126, 261, 257, 258, 259, 5, 260, 156, 157, 158, 727, 728, 729, 730, 159, 160, 161, 162, 114, 731, 732, 733, 734, 350, 351, 352, 353, 121, 354, 355, 356, 357, 358, 359, 127, 360, 361, 362, 363, 117, 364, 365, 120, 119, 366, 367, 368, 369, 116, 370, 371, 372, 373, 374, 375, 376, 377, 128, 378, 379, 380, 381, 115, 125, 382, 383, 384, 385, 763, 764, 765, 916, 917, 918, 919, 766, 767, 768, 769, 759, 760, 761, 762, 1252, 1253, 1254, 1255, 1256, 1257, 1258, 1259, 1260, 1261, 1262, 1263, 1264, 1265, 1266, 1267, 1268, 1269, 1270, 1271, 1272, 1273, 1274, 1275, 1276, 1277, 1278, 1279, 1280, 1281, 1282, 1283, 1284, 1285, 1286, 1287, 1288] (by decide +kernel) (by decide +kernel)
set_option maxRecDepth 20000 in
theorem gL_law_X8_find : GoodIn wsL_law (wsV RL 127 RX8 yX8_find wsX8_find) := goodIn_app (goodIn_of _ (by decide +kernel)) ggL_law_X8_find
set_option maxRecDepth 20000 in
theorem ggL_law_X7_untold : GoodIn wsL_law wsX7_untold := goodIn_r _ [923, 16, 244, 17, 268, 720, 721, 2, 722, 140, 141, 142, 143, 45, 283, 284, 285, 286, 287, 288, 289, 15, 290, 50, 51, 291, 204, 205, 206, 52, 292, 53, 54, 55, 56, 57, 293, 58, 59, 294, 295, 296, 297, 298, 299, 300, 301, 302, 303, 304, 305, 306, 307, 308, 309, 310, 311, 312, 313, 314, 315, 316, 317, 318, 319, 320, 321, 322, 323, 324, 325, 326, 327, 328, 329, 330, 331, 332, 333, 68, 69, 334, 335, 336, 337, 338, 339, 340, 341, 924, 925, 1240, 1241, 1242, 1243, 1244, 1245, 1246, 1247, 1248, 1249, 1250, 1251, 1289, 1290, 1291, 1292, 1293, 1294, 1295, 1296, 1297, 1298, 1299, 1300] (by decide +kernel) (by decide +kernel)
set_option maxRecDepth 20000 in
theorem gL_law_X7_untold : GoodIn wsL_law (wsV RL 128 RX7 yX7_untold wsX7_untold) := goodIn_app (goodIn_of _ (by decide +kernel)) ggL_law_X7_untold
set_option maxRecDepth 20000 in
theorem ggL_law_X8_untold : GoodIn wsL_law wsX8_untold := goodIn_r _ [929, 261, 156, 157, 5, 158, 727, 728, 729, 730, 159, 160, 161, 162, 114, 731, 732, 733, 734, 350, 351, 352, 353, 126, 121, 354, 355, 356, 357, 358, 359, 127, 360, 361, 362, 363, 117, 364, 365, 120, 119, 366, 367, 368, 369, 116, 370, 371, 372, 373, 374, 375, 376, 377, 128, 378, 379, 380, 381, 115, 125, 382, 383, 384, 385, 916, 917, 918, 919, 766, 767, 768, 769, 759, 760, 761, 762, 1252, 1253, 1254, 1255, 1256, 1257, 1258, 1259, 1260, 1261, 1262, 1263, 1264, 1265, 1266, 1267, 1268, 1269, 1270, 1271, 1272, 1273, 1274, 1275, 1276, 1277, 1278, 1279, 1280, 1281, 1282, 1283, 1284, 1285, 1286, 1287, 1288] (by decide +kernel) (by decide +kernel)
set_option maxRecDepth 20000 in
theorem gL_law_X8_untold : GoodIn wsL_law (wsV RL 131 RX8 yX8_untold wsX8_untold) := goodIn_app (goodIn_of _ (by decide +kernel)) ggL_law_X8_untold
set_option maxRecDepth 20000 in
theorem ggL_law_X7_meet : GoodIn wsL_law wsX7_meet := goodIn_r _ [933, 17, 16, 268, 934, 935, 936, 2, 937, 240, 241, 242, 243, 244, 140, 141, 142, 143, 45, 287, 288, 289, 15, 290, 50, 51, 291, 204, 205, 206, 52, 292, 53, 54, 55, 56, 57, 293, 58, 59, 803, 299, 300, 301, 302, 303, 304, 305, 306, 307, 308, 309, 310, 311, 312, 313, 314, 315, 316, 317, 318, 319, 320, 321, 322, 323, 324, 325, 326, 327, 328, 329, 330, 331, 332, 333, 68, 69, 334, 335, 336, 337, 338, 339, 340, 341, 1240, 1241, 1242, 1243, 1244, 1245, 1246, 1247, 1248, 1249, 1250, 1251, 1289, 1290, 1291, 1292, 1293, 1294, 1295, 1296, 1297, 1298, 1299, 1300] (by decide +kernel) (by decide +kernel)
set_option maxRecDepth 20000 in
theorem gL_law_X7_meet : GoodIn wsL_law (wsV RL 132 RX7 yX7_meet wsX7_meet) := goodIn_app (goodIn_of _ (by decide +kernel)) ggL_law_X7_meet
set_option maxRecDepth 20000 in
theorem ggL_law_X8_meet : GoodIn wsL_law wsX8_meet := goodIn_r _ [941, 126, 257, 258, 259, 5, 260, 261, 156, 157, 158, 159, 160, 161, 162, 114, 350, 351, 352, 353, 121, 354, 355, 356, 357, 358, 359, 127, 360, 361, 362, 363, 117, 364, 365, 120, 119, 366, 367, 368, 369, 116, 370, 371, 372, 373, 374, 375, 376, 377, 128, 378, 379, 380, 381, 115, 125, 382, 383, 384, 385, 1252, 1253, 1254, 1255, 1256, 1257, 1258, 1259, 1260, 1261, 1262, 1263, 1264, 1265, 1266, 1267, 1268, 1269, 1270, 1271, 1272, 1273, 1274, 1275, 1276, 1277, 1278, 1279, 1280, 1281, 1282, 1283, 1284, 1285, 1286, 1287, 1288] (by decide +kernel) (by decide +kernel)
set_option maxRecDepth 20000 in
theorem gL_law_X8_meet : GoodIn wsL_law (wsV RL 135 RX8 yX8_meet wsX8_meet) := goodIn_app (goodIn_of _ (by decide +kernel)) ggL_law_X8_meet
set_option maxRecDepth 20000 in
theorem ggL_law_X7_darkest : GoodIn wsL_law wsX7_darkest := goodIn_r _ [945, 43, 17, 390, 828, 946, 720, 721, 2, 722, 140, 141, 142, 143, 45, 283, 284, 285, 286, 16, 287, 288, 289, 15, 290, 50, 51, 291, 204, 205, 206, 52, 292, 53, 54, 55, 56, 57, 293, 58, 59, 294, 295, 296, 297, 298, 299, 300, 301, 302, 303, 304, 305, 306, 307, 308, 309, 310, 311, 312, 313, 314, 315, 316, 317, 318, 319, 320, 321, 322, 323, 324, 325, 326, 327, 328, 329, 330, 331, 332, 333, 68, 69, 334, 335, 336, 337, 338, 339, 340, 341, 835, 836, 837, 42, 838, 839, 840, 778, 779, 780, 781, 852, 853, 854, 855, 1240, 1241, 1242, 1243, 1244, 1245, 1246, 1247, 1248, 1249, 1250, 1251, 1289, 1290, 1291, 1292, 1293, 1294, 1295, 1296, 1297, 1298, 1299, 1300, 1315, 1316] (by decide +kernel) (by decide +kernel)
set_option maxRecDepth 20000 in
theorem gL_law_X7_darkest : GoodIn wsL_law (wsV RL 136 RX7 yX7_darkest wsX7_darkest) := goodIn_app (goodIn_of _ (by decide +kernel)) ggL_law_X7_darkest
set_option maxRecDepth 20000 in
theorem ggL_law_X8_darkest : GoodIn wsL_law wsX8_darkest := goodIn_r _ [950, 115, 727, 728, 5, 729, 730, 156, 157, 158, 159, 160, 161, 162, 114, 731, 732, 733, 734, 350, 351, 352, 353, 261, 126, 121, 354, 355, 356, 357, 358, 359, 127, 360, 361, 362, 363, 117, 364, 365, 120, 119, 366, 367, 368, 369, 116, 370, 371, 372, 373, 374, 375, 376, 377, 128, 378, 379, 380, 381, 125, 382, 383, 384, 385, 786, 787, 788, 789, 763, 764, 765, 1252, 1253, 1254, 1255, 1256, 1257, 1258, 1259, 1260, 1261, 1262, 1263, 1264, 1265, 1266, 1267, 1268, 1269, 1270, 1271, 1272, 1273, 1274, 1275, 1276, 1277, 1278, 1279, 1280, 1281, 1282, 1283, 1284, 1285, 1286, 1287, 1288] (by decide +kernel) (by decide +kernel)
set_option maxRecDepth 20000 in
theorem gL_law_X8_darkest : GoodIn wsL_law (wsV RL 139 RX8 yX8_darkest wsX8_darkest) := goodIn_app (goodIn_of _ (by decide +kernel)) ggL_law_X8_darkest
set_option maxRecDepth 20000 in
theorem ggL_law_X7_light : GoodIn wsL_law wsX7_light := goodIn_r _ [954, 17, 16, 404, 405, 406, 2, 407, 390, 955, 956, 957, 140, 141, 142, 143, 45, 287, 288, 289, 15, 290, 50, 51, 291, 204, 205, 206, 52, 292, 53, 54, 55, 56, 57, 293, 58, 59, 803, 299, 300, 301, 302, 303, 304, 305, 306, 307, 308, 309, 310, 311, 312, 313, 314, 315, 316, 317, 318, 319, 320, 321, 322, 323, 324, 325, 326, 327, 328, 329, 330, 331, 332, 333, 68, 69, 334, 335, 336, 337, 338, 339, 340, 341, 739, 740, 741, 742, 925, 1240, 1241, 1242, 1243, 1244, 1245, 1246, 1247, 1248, 1249, 1250, 1251, 1289, 1290, 1291, 1292, 1293, 1294, 1295, 1296, 1297, 1298, 1299, 1300] (by decide +kernel) (by decide +kernel)
set_option maxRecDepth 20000 in
theorem gL_law_X7_light : GoodIn wsL_law (wsV RL 140 RX7 yX7_light wsX7_light) := goodIn_app (goodIn_of _ (by decide +kernel)) ggL_law_X7_light
set_option maxRecDepth 20000 in
theorem ggL_law_X8_light_ : GoodIn wsL_law wsX8_light_ := goodIn_r _ [961, 730, 422, 423, 424, 5, 425, 115, 156, 157, 158, 159, 160, 161, 162, 114, 350, 351, 352, 353, 261, 126, 121, 354, 355, 356, 357, 358, 359, 127, 360, 361, 362, 363, 117, 364, 365, 120, 119, 366, 367, 368, 369, 116, 370, 371, 372, 373, 374, 375, 376, 377, 128, 378, 379, 380, 381, 125, 382, 383, 384, 385, 759, 760, 761, 762, 1252, 1253, 1254, 1255, 1256, 1257, 1258, 1259, 1260, 1261, 1262, 1263, 1264, 1265, 1266, 1267, 1268, 1269, 1270, 1271, 1272, 1273, 1274, 1275, 1276, 1277, 1278, 1279, 1280, 1281, 1282, 1283, 1284, 1285, 1286, 1287, 1288] (by decide +kernel) (by decide +kernel)
set_option maxRecDepth 20000 in
theorem gL_law_X8_light_ : GoodIn wsL_law (wsV RL 143 RX8 yX8_light_ wsX8_light_) := goodIn_app (goodIn_of _ (by decide +kernel)) ggL_law_X8_light_
set_option maxRecDepth 20000 in
theorem ggL_law_X7_when : GoodIn wsL_law wsX7_when := goodIn_r _ [965, 966, 967, 968, 2, 969, 43, 17, 16, 828, 835, 836, 837, 42, 838, 839, 840, 287, 288, 289, 15, 290, 50, 51, 291, 204, 205, 206, 52, 292, 53, 54, 55, 56, 57, 293, 58, 59, 743, 744, 745, 746, 747, 740, 741, 742, 302, 303, 304, 305, 306, 307, 308, 309, 748, 749, 750, 751, 752, 753, 754, 852, 853, 854, 855, 803, 299, 300, 301, 310, 311, 312, 313, 314, 315, 316, 317, 318, 319, 320, 321, 322, 323, 324, 325, 326, 327, 328, 329, 330, 331, 332, 333, 68, 69, 334, 335, 336, 337, 338, 339, 340, 341, 970, 971, 972, 973, 140, 141, 142, 143, 45, 1240, 1241, 1242, 1243, 1244, 1245, 1246, 1247, 1248, 1249, 1250, 1251, 1315, 1316, 1289, 1290, 1291, 1292, 1293, 1294, 1295, 1296, 1297, 1298, 1299, 1300] (by decide +kernel) (by decide +kernel)
set_option maxRecDepth 20000 in
theorem gL_law_X7_when : GoodIn wsL_law (wsV RL 144 RX7 yX7_when wsX7_when) := goodIn_app (goodIn_of _ (by decide +kernel)) ggL_law_X7_when
set_option maxRecDepth 20000 in
theorem ggL_law_X8_when : GoodIn wsL_law wsX8_when := goodIn_r _ [977, 156, 157, 5, 158, 159, 160, 161, 162, 114, 350, 351, 352, 353, 261, 126, 121, 354, 355, 759, 760, 761, 762, 115, 374, 375, 376, 377, 128, 117, 763, 764, 765, 978, 979, 980, 981, 360, 361, 362, 363, 364, 365, 120, 119, 366, 367, 368, 369, 116, 370, 371, 372, 373, 378, 379, 380, 381, 125, 382, 383, 384, 385, 356, 357, 358, 359, 127, 1252, 1253, 1254, 1255, 1256, 1257, 1258, 1259, 1260, 1261, 1262, 1263, 1264, 1265, 1266, 1267, 1268, 1269, 1270, 1271, 1272, 1273, 1274, 1275, 1276, 1277, 1278, 1279, 1280, 1281, 1282, 1283, 1284, 1285, 1286, 1287, 1288] (by decide +kernel) (by decide +kernel)
set_option maxRecDepth 20000 in
theorem gL_law_X8_when : GoodIn wsL_law (wsV RL 147 RX8 yX8_when wsX8_when) := goodIn_app (goodIn_of _ (by decide +kernel)) ggL_law_X8_when
set_option maxRecDepth 20000 in
theorem ggL_law_X7_always : GoodIn wsL_law wsX7_always := goodIn_r _ [985, 17, 16, 720, 721, 2, 722, 140, 141, 142, 143, 45, 287, 288, 289, 15, 290, 50, 51, 291, 204, 205, 206, 52, 292, 53, 54, 55, 56, 57, 293, 58, 59, 739, 740, 741, 742, 302, 303, 304, 305, 306, 307, 308, 309, 803, 299, 300, 301, 310, 311, 312, 313, 314, 315, 316, 317, 318, 319, 320, 321, 322, 323, 324, 325, 326, 327, 328, 329, 330, 331, 332, 333, 68, 69, 334, 335, 336, 337, 338, 339, 340, 341, 1240, 1241, 1242, 1243, 1244, 1245, 1246, 1247, 1248, 1249, 1250, 1251, 1289, 1290, 1291, 1292, 1293, 1294, 1295, 1296, 1297, 1298, 1299, 1300] (by decide +kernel) (by decide +kernel)
set_option maxRecDepth 20000 in
theorem gL_law_X7_always : GoodIn wsL_law (wsV RL 148 RX7 yX7_always wsX7_always) := goodIn_app (goodIn_of _ (by decide +kernel)) ggL_law_X7_always
set_option maxRecDepth 20000 in
theorem ggL_law_X8_always : GoodIn wsL_law wsX8_always := goodIn_r _ [989, 727, 728, 5, 729, 730, 156, 157, 158, 159, 160, 161, 162, 114, 350, 351, 352, 353, 261, 126, 121, 354, 355, 759, 760, 761, 762, 115, 374, 375, 376, 377, 128, 117, 356, 357, 358, 359, 127, 360, 361, 362, 363, 364, 365, 120, 119, 366, 367, 368, 369, 116, 370, 371, 372, 373, 378, 379, 380, 381, 125, 382, 383, 384, 385, 1252, 1253, 1254, 1255, 1256, 1257, 1258, 1259, 1260, 1261, 1262, 1263, 1264, 1265, 1266, 1267, 1268, 1269, 1270, 1271, 1272, 1273, 1274, 1275, 1276, 1277, 1278, 1279, 1280, 1281, 1282, 1283, 1284, 1285, 1286, 1287, 1288] (by decide +kernel) (by decide +kernel)
set_option maxRecDepth 20000 in
theorem gL_law_X8_always : GoodIn wsL_law (wsV RL 151 RX8 yX8_always wsX8_always) := goodIn_app (goodIn_of _ (by decide +kernel)) ggL_law_X8_always
set_option maxRecDepth 20000 in
theorem ggL_law_X7_never : GoodIn wsL_law wsX7_never := goodIn_r _ [993, 17, 16, 720, 721, 2, 722, 140, 141, 142, 143, 45, 287, 288, 289, 15, 290, 50, 51, 291, 204, 205, 206, 52, 292, 53, 54, 55, 56, 57, 293, 58, 59, 924, 303, 304, 305, 306, 307, 308, 309, 803, 299, 300, 301, 302, 310, 311, 312, 313, 314, 315, 316, 317, 318, 319, 320, 321, 322, 323, 324, 325, 326, 327, 328, 329, 330, 331, 332, 333, 68, 69, 334, 335, 336, 337, 338, 339, 340, 341, 1240, 1241, 1242, 1243, 1244, 1245, 1246, 1247, 1248, 1249, 1250, 1251, 1289, 1290, 1291, 1292, 1293, 1294, 1295, 1296, 1297, 1298, 1299, 1300] (by decide +kernel) (by decide +kernel)
set_option maxRecDepth 20000 in
theorem gL_law_X7_never : GoodIn wsL_law (wsV RL 152 RX7 yX7_never wsX7_never) := goodIn_app (goodIn_of _ (by decide +kernel)) ggL_law_X7_never
set_option maxRecDepth 20000 in
theorem ggL_law_X8_never : GoodIn wsL_law wsX8_never := goodIn_r _ [997, 727, 728, 5, 729, 730, 156, 157, 158, 159, 160, 161, 162, 114, 350, 351, 352, 353, 261, 126, 121, 354, 355, 766, 767, 768, 769, 115, 759, 760, 761, 762, 374, 375, 376, 377, 128, 117, 356, 357, 358, 359, 127, 360, 361, 362, 363, 364, 365, 120, 119, 366, 367, 368, 369, 116, 370, 371, 372, 373, 378, 379, 380, 381, 125, 382, 383, 384, 385, 1252, 1253, 1254, 1255, 1256, 1257, 1258, 1259, 1260, 1261, 1262, 1263, 1264, 1265, 1266, 1267, 1268, 1269, 1270, 1271, 1272, 1273, 1274, 1275, 1276, 1277, 1278, 1279, 1280, 1281, 1282, 1283, 1284, 1285, 1286, 1287, 1288] (by decide +kernel) (by decide +kernel)
set_option maxRecDepth 20000 in
theorem gL_law_X8_never : GoodIn wsL_law (wsV RL 155 RX8 yX8_never wsX8_never) := goodIn_app (goodIn_of _ (by decide +kernel)) ggL_law_X8_never
set_option maxRecDepth 20000 in
theorem ggL_law_X7_flickers : GoodIn wsL_law wsX7_flickers := goodIn_r _ [1001, 17, 16, 955, 956, 2, 957, 140, 141, 142, 143, 45, 287, 288, 289, 15, 290, 50, 51, 291, 204, 205, 206, 52, 292, 53, 54, 55, 56, 57, 293, 58, 59, 924, 303, 304, 305, 306, 307, 308, 309, 803, 299, 300, 301, 302, 310, 311, 312, 313, 314, 315, 316, 317, 318, 319, 320, 321, 322, 323, 324, 325, 326, 327, 328, 329, 330, 331, 332, 333, 68, 69, 334, 335, 336, 337, 338, 339, 340, 341, 1240, 1241, 1242, 1243, 1244, 1245, 1246, 1247, 1248, 1249, 1250, 1251, 1289, 1290, 1291, 1292, 1293, 1294, 1295, 1296, 1297, 1298, 1299, 1300] (by decide +kernel) (by decide +kernel)
set_option maxRecDepth 20000 in
theorem gL_law_X7_flickers : GoodIn wsL_law (wsV RL 156 RX7 yX7_flickers wsX7_flickers) := goodIn_app (goodIn_of _ (by decide +kernel)) ggL_law_X7_flickers
set_option maxRecDepth 20000 in
theorem ggL_law_X8_flickers : GoodIn wsL_law wsX8_flickers := goodIn_r _ [1005, 730, 156, 157, 5, 158, 159, 160, 161, 162, 114, 350, 351, 352, 353, 261, 126, 121, 354, 355, 759, 760, 761, 762, 115, 374, 375, 376, 377, 128, 117, 356, 357, 358, 359, 127, 360, 361, 362, 363, 364, 365, 120, 119, 366, 367, 368, 369, 116, 370, 371, 372, 373, 378, 379, 380, 381, 125, 382, 383, 384, 385, 1252, 1253, 1254, 1255, 1256, 1257, 1258, 1259, 1260, 1261, 1262, 1263, 1264, 1265, 1266, 1267, 1268, 1269, 1270, 1271, 1272, 1273, 1274, 1275, 1276, 1277, 1278, 1279, 1280, 1281, 1282, 1283, 1284, 1285, 1286, 1287, 1288] (by decide +kernel) (by decide +kernel)
set_option maxRecDepth 20000 in
theorem gL_law_X8_flickers : GoodIn wsL_law (wsV RL 159 RX8 yX8_flickers wsX8_flickers) := goodIn_app (goodIn_of _ (by decide +kernel)) ggL_law_X8_flickers
set_option maxRecDepth 20000 in
theorem ggL_law_X7_round : GoodIn wsL_law wsX7_round := goodIn_r _ [1009, 17, 16, 287, 288, 289, 15, 290, 50, 51, 291, 204, 205, 206, 52, 292, 53, 54, 55, 56, 57, 293, 58, 59, 803, 299, 300, 301, 302, 303, 304, 305, 306, 307, 308, 309, 310, 311, 312, 313, 314, 315, 316, 317, 318, 319, 320, 321, 322, 323, 324, 325, 326, 327, 328, 329, 330, 331, 332, 333, 68, 2, 69, 334, 335, 336, 337, 338, 339, 340, 341, 1010, 1011, 1012, 1013, 244, 268, 1240, 1241, 1242, 1243, 1244, 1245, 1246, 1247, 1248, 1249, 1250, 1251, 1289, 1290, 1291, 1292, 1293, 1294, 1295, 1296, 1297, 1298, 1299, 1300] (by decide +kernel) (by decide +kernel)
set_option maxRecDepth 20000 in
theorem gL_law_X7_round : GoodIn wsL_law (wsV RL 160 RX7 yX7_round wsX7_round) := goodIn_app (goodIn_of _ (by decide +kernel)) ggL_law_X7_round
set_option maxRecDepth 20000 in
theorem ggL_law_X8_round : GoodIn wsL_law wsX8_round := goodIn_r _ [1017, 261, 126, 121, 350, 351, 352, 5, 353, 354, 355, 356, 357, 358, 359, 127, 360, 361, 362, 363, 117, 364, 365, 120, 119, 366, 367, 368, 369, 116, 370, 371, 372, 373, 374, 375, 376, 377, 128, 156, 157, 158, 378, 379, 380, 381, 115, 125, 382, 383, 384, 385, 1252, 1253, 1254, 1255, 1256, 1257, 1258, 1259, 1260, 1261, 1262, 1263, 1264, 1265, 1266, 1267, 1268, 1269, 1270, 1271, 1272, 1273, 1274, 1275, 1276, 1277, 1278, 1279, 1280, 1281, 1282, 1283, 1284, 1285, 1286, 1287, 1288] (by decide +kernel) (by decide +kernel)
set_option maxRecDepth 20000 in
theorem gL_law_X8_round : GoodIn wsL_law (wsV RL 163 RX8 yX8_round wsX8_round) := goodIn_app (goodIn_of _ (by decide +kernel)) ggL_law_X8_round
set_option maxRecDepth 20000 in
theorem ggL_law_X7_going : GoodIn wsL_law wsX7_going := goodIn_r _ [1021, 283, 284, 285, 2, 286, 17, 16, 287, 288, 289, 15, 290, 50, 51, 291, 204, 205, 206, 52, 292, 53, 54, 55, 56, 57, 293, 58, 59, 294, 295, 296, 297, 298, 299, 300, 301, 302, 303, 304, 305, 306, 307, 308, 309, 310, 311, 312, 313, 314, 315, 316, 317, 318, 319, 320, 321, 322, 323, 324, 325, 326, 327, 328, 329, 330, 331, 332, 333, 68, 69, 334, 335, 336, 337, 338, 339, 340, 341, 1010, 1011, 1012, 1013, 244, 268, 1240, 1241, 1242, 1243, 1244, 1245, 1246, 1247, 1248, 1249, 1250, 1251, 1289, 1290, 1291, 1292, 1293, 1294, 1295, 1296, 1297, 1298, 1299, 1300] (by decide +kernel) (by decide +kernel)
set_option maxRecDepth 20000 in
theorem gL_law_X7_going : GoodIn wsL_law (wsV RL 164 RX7 yX7_going wsX7_going) := goodIn_app (goodIn_of _ (by decide +kernel)) ggL_law_X7_going
set_option maxRecDepth 20000 in
theorem ggL_law_X8_going : GoodIn wsL_law wsX8_going := goodIn_r _ [1025, 350, 351, 352, 5, 353, 261, 126, 121, 354, 355, 978, 979, 980, 981, 360, 361, 362, 363, 117, 364, 365, 120, 119, 366, 367, 368, 369, 116, 370, 371, 372, 373, 374, 375, 376, 377, 128, 156, 157, 158, 378, 379, 380, 381, 115, 125, 382, 383, 384, 385, 1252, 1253, 1254, 1255, 1256, 1257, 1258, 1259, 1260, 1261, 1262, 1263, 1264, 1265, 1266, 1267, 1268, 1269, 1270, 1271, 1272, 1273, 1274, 1275, 1276, 1277, 1278, 1279, 1280, 1281, 1282, 1283, 1284, 1285, 1286, 1287, 1288] (by decide +kernel) (by decide +kernel)
set_option maxRecDepth 20000 in
theorem gL_law_X8_going : GoodIn wsL_law (wsV RL 167 RX8 yX8_going wsX8_going) := goodIn_app (goodIn_of _ (by decide +kernel)) ggL_law_X8_going
set_option maxRecDepth 20000 in
theorem ggL_law_X7_arrives : GoodIn wsL_law wsX7_arrives := goodIn_r _ [1029, 17, 16, 268, 240, 241, 242, 2, 243, 244, 404, 405, 406, 407, 390, 140, 141, 142, 143, 45, 287, 288, 289, 15, 290, 50, 51, 291, 204, 205, 206, 52, 292, 53, 54, 55, 56, 57, 293, 58, 59, 803, 299, 300, 301, 302, 303, 304, 305, 306, 307, 308, 309, 310, 311, 312, 313, 314, 315, 316, 317, 318, 319, 320, 321, 322, 323, 324, 325, 326, 327, 328, 329, 330, 331, 332, 333, 68, 69, 334, 335, 336, 337, 338, 339, 340, 341, 1240, 1241, 1242, 1243, 1244, 1245, 1246, 1247, 1248, 1249, 1250, 1251, 1289, 1290, 1291, 1292, 1293, 1294, 1295, 1296, 1297, 1298, 1299, 1300] (by decide +kernel) (by decide +kernel)
set_option maxRecDepth 20000 in
theorem gL_law_X7_arrives : GoodIn wsL_law (wsV RL 168 RX7 yX7_arrives wsX7_arrives) := goodIn_app (goodIn_of _ (by decide +kernel)) ggL_law_X7_arrives
set_option maxRecDepth 20000 in
theorem ggL_law_X8_arrives : GoodIn wsL_law wsX8_arrives := goodIn_r _ [1033, 126, 257, 258, 259, 5, 260, 261, 156, 157, 158, 422, 423, 424, 425, 115, 159, 160, 161, 162, 114, 350, 351, 352, 353, 121, 354, 355, 356, 357, 358, 359, 127, 360, 361, 362, 363, 117, 364, 365, 120, 119, 366, 367, 368, 369, 116, 370, 371, 372, 373, 374, 375, 376, 377, 128, 378, 379, 380, 381, 125, 382, 383, 384, 385, 1252, 1253, 1254, 1255, 1256, 1257, 1258, 1259, 1260, 1261, 1262, 1263, 1264, 1265, 1266, 1267, 1268, 1269, 1270, 1271, 1272, 1273, 1274, 1275, 1276, 1277, 1278, 1279, 1280, 1281, 1282, 1283, 1284, 1285, 1286, 1287, 1288] (by decide +kernel) (by decide +kernel)
set_option maxRecDepth 20000 in
theorem gL_law_X8_arrives : GoodIn wsL_law (wsV RL 171 RX8 yX8_arrives wsX8_arrives) := goodIn_app (goodIn_of _ (by decide +kernel)) ggL_law_X8_arrives
set_option maxRecDepth 20000 in
theorem ggL_law_X7_seen : GoodIn wsL_law wsX7_seen := goodIn_r _ [1037, 17, 16, 268, 240, 241, 242, 2, 243, 244, 720, 721, 722, 140, 141, 142, 143, 45, 287, 288, 289, 15, 290, 50, 51, 291, 204, 205, 206, 52, 292, 53, 54, 55, 56, 57, 293, 58, 59, 803, 299, 300, 301, 302, 303, 304, 305, 306, 307, 308, 309, 310, 311, 312, 313, 314, 315, 316, 317, 318, 319, 320, 321, 322, 323, 324, 325, 326, 327, 328, 329, 330, 331, 332, 333, 68, 69, 334, 335, 336, 337, 338, 339, 340, 341, 1240, 1241, 1242, 1243, 1244, 1245, 1246, 1247, 1248, 1249, 1250, 1251, 1289, 1290, 1291, 1292, 1293, 1294, 1295, 1296, 1297, 1298, 1299, 1300] (by decide +kernel) (by decide +kernel)
set_option maxRecDepth 20000 in
theorem gL_law_X7_seen : GoodIn wsL_law (wsV RL 172 RX7 yX7_seen wsX7_seen) := goodIn_app (goodIn_of _ (by decide +kernel)) ggL_law_X7_seen
set_option maxRecDepth 20000 in
theorem ggL_law_X8_seen : GoodIn wsL_law wsX8_seen := goodIn_r _ [1041, 126, 257, 258, 259, 5, 260, 261, 156, 157, 158, 727, 728, 729, 730, 159, 160, 161, 162, 114, 350, 351, 352, 353, 121, 354, 355, 356, 357, 358, 359, 127, 360, 361, 362, 363, 117, 364, 365, 120, 119, 366, 367, 368, 369, 116, 370, 371, 372, 373, 374, 375, 376, 377, 128, 378, 379, 380, 381, 115, 125, 382, 383, 384, 385, 1252, 1253, 1254, 1255, 1256, 1257, 1258, 1259, 1260, 1261, 1262, 1263, 1264, 1265, 1266, 1267, 1268, 1269, 1270, 1271, 1272, 1273, 1274, 1275, 1276, 1277, 1278, 1279, 1280, 1281, 1282, 1283, 1284, 1285, 1286, 1287, 1288] (by decide +kernel) (by decide +kernel)
set_option maxRecDepth 20000 in
theorem gL_law_X8_seen : GoodIn wsL_law (wsV RL 175 RX8 yX8_seen wsX8_seen) := goodIn_app (goodIn_of _ (by decide +kernel)) ggL_law_X8_seen
set_option maxRecDepth 20000 in
theorem ggL_law_X7_without : GoodIn wsL_law wsX7_without := goodIn_r _ [1045, 16, 244, 43, 17, 828, 720, 721, 2, 722, 140, 141, 142, 143, 45, 835, 836, 837, 42, 838, 839, 840, 287, 288, 289, 15, 290, 50, 51, 291, 204, 205, 206, 52, 292, 53, 54, 55, 56, 57, 293, 58, 59, 1046, 1047, 1048, 1049, 294, 295, 296, 297, 298, 299, 300, 301, 302, 303, 304, 305, 306, 307, 308, 309, 310, 311, 312, 313, 314, 315, 316, 317, 318, 319, 320, 321, 322, 323, 324, 325, 326, 327, 328, 329, 330, 331, 332, 333, 68, 69, 334, 335, 336, 337, 338, 339, 340, 341, 743, 744, 745, 746, 747, 740, 741, 742, 748, 749, 750, 751, 752, 753, 754, 852, 853, 854, 855, 1240, 1241, 1242, 1243, 1244, 1245, 1246, 1247, 1248, 1249, 1250, 1251, 1289, 1290, 1291, 1292, 1293, 1294, 1295, 1296, 1297, 1298, 1299, 1300, 1315, 1316] (by decide +kernel) (by decide +kernel)
set_option maxRecDepth 20000 in
theorem gL_law_X7_without : GoodIn wsL_law (wsV RL 176 RX7 yX7_without wsX7_without) := goodIn_app (goodIn_of _ (by decide +kernel)) ggL_law_X7_without
set_option maxRecDepth 20000 in
theorem ggL_law_X8_without : GoodIn wsL_law wsX8_without := goodIn_r _ [1053, 261, 128, 727, 728, 5, 729, 730, 156, 157, 158, 159, 160, 161, 162, 114, 731, 732, 733, 734, 350, 351, 352, 353, 126, 121, 354, 355, 356, 357, 358, 359, 127, 360, 361, 362, 363, 117, 364, 365, 120, 119, 366, 367, 368, 369, 116, 370, 371, 372, 373, 374, 375, 376, 377, 378, 379, 380, 381, 115, 125, 382, 383, 384, 385, 759, 760, 761, 762, 763, 764, 765, 1252, 1253, 1254, 1255, 1256, 1257, 1258, 1259, 1260, 1261, 1262, 1263, 1264, 1265, 1266, 1267, 1268, 1269, 1270, 1271, 1272, 1273, 1274, 1275, 1276, 1277, 1278, 1279, 1280, 1281, 1282, 1283, 1284, 1285, 1286, 1287, 1288] (by decide +kernel) (by decide +kernel)
set_option maxRecDepth 20000 in
theorem gL_law_X8_without : GoodIn wsL_law (wsV RL 179 RX8 yX8_without wsX8_without) := goodIn_app (goodIn_of _ (by decide +kernel)) ggL_law_X8_without
set_option maxRecDepth 20000 in
theorem ggL_law_X7_best : GoodIn wsL_law wsX7_best := goodIn_r _ [1057, 43, 16, 390, 17, 268, 828, 240, 241, 242, 2, 243, 244, 720, 721, 722, 140, 141, 142, 143, 45, 835, 836, 837, 42, 838, 839, 840, 287, 288, 289, 15, 290, 50, 51, 291, 204, 205, 206, 52, 292, 53, 54, 55, 56, 57, 293, 58, 59, 294, 295, 296, 297, 298, 299, 300, 301, 302, 303, 304, 305, 306, 307, 308, 309, 310, 311, 312, 313, 314, 315, 316, 317, 318, 319, 320, 321, 322, 323, 324, 325, 326, 327, 328, 329, 330, 331, 332, 333, 68, 69, 334, 335, 336, 337, 338, 339, 340, 341, 743, 744, 745, 746, 747, 740, 741, 742, 748, 749, 750, 751, 752, 753, 754, 852, 853, 854, 855, 1240, 1241, 1242, 1243, 1244, 1245, 1246, 1247, 1248, 1249, 1250, 1251, 1289, 1290, 1291, 1292, 1293, 1294, 1295, 1296, 1297, 1298, 1299, 1300, 1315, 1316] (by decide +kernel) (by decide +kernel)
set_option maxRecDepth 20000 in
theorem gL_law_X7_best : GoodIn wsL_law (wsV RL 180 RX7 yX7_best wsX7_best) := goodIn_app (goodIn_of _ (by decide +kernel)) ggL_law_X7_best
set_option maxRecDepth 20000 in
theorem ggL_law_X8_best : GoodIn wsL_law wsX8_best := goodIn_r _ [1061, 121, 115, 257, 258, 259, 5, 260, 261, 156, 157, 158, 727, 728, 729, 730, 159, 160, 161, 162, 114, 731, 732, 733, 734, 350, 351, 352, 353, 126, 354, 355, 356, 357, 358, 359, 127, 360, 361, 362, 363, 117, 364, 365, 120, 119, 366, 367, 368, 369, 116, 370, 371, 372, 373, 374, 375, 376, 377, 128, 378, 379, 380, 381, 125, 382, 383, 384, 385, 759, 760, 761, 762, 763, 764, 765, 1252, 1253, 1254, 1255, 1256, 1257, 1258, 1259, 1260, 1261, 1262, 1263, 1264, 1265, 1266, 1267, 1268, 1269, 1270, 1271, 1272, 1273, 1274, 1275, 1276, 1277, 1278, 1279, 1280, 1281, 1282, 1283, 1284, 1285, 1286, 1287, 1288] (by decide +kernel) (by decide +kernel)
set_option maxRecDepth 20000 in
theorem gL_law_X8_best : GoodIn wsL_law (wsV RL 183 RX8 yX8_best wsX8_best) := goodIn_app (goodIn_of _ (by decide +kernel)) ggL_law_X8_best
set_option maxRecDepth 20000 in
theorem ggL_law_X7_middle : GoodIn wsL_law wsX7_middle := goodIn_r _ [1065, 16, 244, 43, 390, 828, 140, 141, 142, 2, 143, 45, 1066, 1067, 1068, 15, 1069, 292, 57, 322, 323, 324, 325, 52, 835, 836, 837, 42, 838, 839, 840, 852, 853, 854, 855, 1240, 1241, 1242, 1243, 1244, 1245, 1246, 1247, 1248, 1249, 1250, 1251, 1289, 1290, 1291, 1292, 1293, 1294, 1295, 1296, 1297, 1298, 1299, 1300, 1315, 1316] (by decide +kernel) (by decide +kernel)
set_option maxRecDepth 20000 in
theorem gL_law_X7_middle : GoodIn wsL_law (wsV RL 184 RX7 yX7_middle wsX7_middle) := goodIn_app (goodIn_of _ (by decide +kernel)) ggL_law_X7_middle
set_option maxRecDepth 20000 in
theorem ggL_law_X8_middle : GoodIn wsL_law wsX8_middle := goodIn_r _ [1073, 261, 115, 125, 121, 159, 160, 161, 5, 162, 114, 382, 383, 384, 385, 116, 1252, 1253, 1254, 1255, 1256, 1257, 1258, 1259, 1260, 1261, 1262, 1263, 1264, 1265, 1266, 1267, 1268, 1269, 1270, 1271, 1272, 1273, 1274, 1275, 1276, 1277, 1278, 1279, 1280, 1281, 1282, 1283, 1284, 1285, 1286, 1287, 1288] (by decide +kernel) (by decide +kernel)
set_option maxRecDepth 20000 in
theorem gL_law_X8_middle : GoodIn wsL_law (wsV RL 187 RX8 yX8_middle wsX8_middle) := goodIn_app (goodIn_of _ (by decide +kernel)) ggL_law_X8_middle
set_option maxRecDepth 20000 in
theorem ggL_law_X7_parts : GoodIn wsL_law wsX7_parts := goodIn_r _ [1077, 16, 390, 1078, 1079, 1080, 15, 1081, 322, 323, 324, 325, 52, 1240, 1241, 1242, 1243, 1244, 1245, 1246, 1247, 1248, 1249, 1250, 1251, 1289, 1290, 1291, 1292, 1293, 1294, 1295, 1296, 1297, 1298, 1299, 1300] (by decide +kernel) (by decide +kernel)
set_option maxRecDepth 20000 in
theorem gL_law_X7_parts : GoodIn wsL_law (wsV RL 188 RX7 yX7_parts wsX7_parts) := goodIn_app (goodIn_of _ (by decide +kernel)) ggL_law_X7_parts
set_option maxRecDepth 20000 in
theorem ggL_law_X8_parts : GoodIn wsL_law wsX8_parts := goodIn_r _ [1085, 1086, 1087, 1088, 5, 1089, 115, 125, 382, 383, 384, 385, 116, 1252, 1253, 1254, 1255, 1256, 1257, 1258, 1259, 1260, 1261, 1262, 1263, 1264, 1265, 1266, 1267, 1268, 1269, 1270, 1271, 1272, 1273, 1274, 1275, 1276, 1277, 1278, 1279, 1280, 1281, 1282, 1283, 1284, 1285, 1286, 1287, 1288] (by decide +kernel) (by decide +kernel)
set_option maxRecDepth 20000 in
theorem gL_law_X8_parts : GoodIn wsL_law (wsV RL 191 RX8 yX8_parts wsX8_parts) := goodIn_app (goodIn_of _ (by decide +kernel)) ggL_law_X8_parts
set_option maxRecDepth 20000 in
theorem ggL_law_X7_newWay : GoodIn wsL_law wsX7_newWay := goodIn_r _ [1093, 16, 390, 711, 323, 324, 15, 325, 52, 408, 327, 328, 329, 51, 1240, 1241, 1242, 1243, 1244, 1245, 1246, 1247, 1248, 1249, 1250, 1251, 1289, 1290, 1291, 1292, 1293, 1294, 1295, 1296, 1297, 1298, 1299, 1300] (by decide +kernel) (by decide +kernel)
set_option maxRecDepth 20000 in
theorem gL_law_X7_newWay : GoodIn wsL_law (wsV RL 192 RX7 yX7_newWay wsX7_newWay) := goodIn_app (goodIn_of _ (by decide +kernel)) ggL_law_X7_newWay
set_option maxRecDepth 20000 in
theorem ggL_law_X8_newWay : GoodIn wsL_law wsX8_newWay := goodIn_r _ [1097, 115, 116, 426, 427, 428, 5, 429, 1086, 1087, 1088, 1089, 125, 382, 383, 384, 385, 1252, 1253, 1254, 1255, 1256, 1257, 1258, 1259, 1260, 1261, 1262, 1263, 1264, 1265, 1266, 1267, 1268, 1269, 1270, 1271, 1272, 1273, 1274, 1275, 1276, 1277, 1278, 1279, 1280, 1281, 1282, 1283, 1284, 1285, 1286, 1287, 1288] (by decide +kernel) (by decide +kernel)
set_option maxRecDepth 20000 in
theorem gL_law_X8_newWay : GoodIn wsL_law (wsV RL 195 RX8 yX8_newWay wsX8_newWay) := goodIn_app (goodIn_of _ (by decide +kernel)) ggL_law_X8_newWay
set_option maxRecDepth 20000 in
theorem ggL_law_X7_together : GoodIn wsL_law wsX7_together := goodIn_r _ [1101, 17, 16, 268, 934, 935, 936, 2, 937, 240, 241, 242, 243, 244, 720, 721, 722, 140, 141, 142, 143, 45, 287, 288, 289, 15, 290, 50, 51, 291, 204, 205, 206, 52, 292, 53, 54, 55, 56, 57, 293, 58, 59, 803, 299, 300, 301, 302, 303, 304, 305, 306, 307, 308, 309, 310, 311, 312, 313, 314, 315, 316, 317, 318, 319, 320, 321, 322, 323, 324, 325, 326, 327, 328, 329, 330, 331, 332, 333, 68, 69, 334, 335, 336, 337, 338, 339, 340, 341, 1240, 1241, 1242, 1243, 1244, 1245, 1246, 1247, 1248, 1249, 1250, 1251, 1289, 1290, 1291, 1292, 1293, 1294, 1295, 1296, 1297, 1298, 1299, 1300] (by decide +kernel) (by decide +kernel)
set_option maxRecDepth 20000 in
theorem gL_law_X7_together : GoodIn wsL_law (wsV RL 196 RX7 yX7_together wsX7_together) := goodIn_app (goodIn_of _ (by decide +kernel)) ggL_law_X7_together
set_option maxRecDepth 20000 in
theorem ggL_law_X8_together : GoodIn wsL_law wsX8_together := goodIn_r _ [1105, 126, 257, 258, 259, 5, 260, 261, 156, 157, 158, 727, 728, 729, 730, 159, 160, 161, 162, 114, 350, 351, 352, 353, 121, 354, 355, 356, 357, 358, 359, 127, 360, 361, 362, 363, 117, 364, 365, 120, 119, 366, 367, 368, 369, 116, 370, 371, 372, 373, 374, 375, 376, 377, 128, 378, 379, 380, 381, 115, 125, 382, 383, 384, 385, 1252, 1253, 1254, 1255, 1256, 1257, 1258, 1259, 1260, 1261, 1262, 1263, 1264, 1265, 1266, 1267, 1268, 1269, 1270, 1271, 1272, 1273, 1274, 1275, 1276, 1277, 1278, 1279, 1280, 1281, 1282, 1283, 1284, 1285, 1286, 1287, 1288] (by decide +kernel) (by decide +kernel)
set_option maxRecDepth 20000 in
theorem gL_law_X8_together : GoodIn wsL_law (wsV RL 199 RX8 yX8_together wsX8_together) := goodIn_app (goodIn_of _ (by decide +kernel)) ggL_law_X8_together
set_option maxRecDepth 20000 in
theorem ggL_law_X7_alone : GoodIn wsL_law wsX7_alone := goodIn_r _ [1109, 17, 16, 240, 241, 242, 2, 243, 244, 720, 721, 722, 140, 141, 142, 143, 45, 287, 288, 289, 15, 290, 50, 51, 291, 204, 205, 206, 52, 292, 53, 54, 55, 56, 57, 293, 58, 59, 694, 307, 308, 309, 903, 904, 905, 906, 306, 803, 299, 300, 301, 302, 303, 304, 305, 310, 311, 312, 313, 314, 315, 316, 317, 318, 319, 320, 321, 322, 323, 324, 325, 326, 327, 328, 329, 330, 331, 332, 333, 68, 69, 334, 335, 336, 337, 338, 339, 340, 341, 1240, 1241, 1242, 1243, 1244, 1245, 1246, 1247, 1248, 1249, 1250, 1251, 1289, 1290, 1291, 1292, 1293, 1294, 1295, 1296, 1297, 1298, 1299, 1300] (by decide +kernel) (by decide +kernel)
set_option maxRecDepth 20000 in
theorem gL_law_X7_alone : GoodIn wsL_law (wsV RL 200 RX7 yX7_alone wsX7_alone) := goodIn_app (goodIn_of _ (by decide +kernel)) ggL_law_X7_alone
set_option maxRecDepth 20000 in
theorem ggL_law_X8_alone : GoodIn wsL_law wsX8_alone := goodIn_r _ [1113, 126, 257, 258, 259, 5, 260, 261, 156, 157, 158, 727, 728, 729, 730, 159, 160, 161, 162, 114, 350, 351, 352, 353, 121, 354, 355, 374, 375, 376, 377, 128, 117, 370, 371, 372, 373, 356, 357, 358, 359, 127, 360, 361, 362, 363, 364, 365, 120, 119, 366, 367, 368, 369, 116, 378, 379, 380, 381, 115, 125, 382, 383, 384, 385, 1252, 1253, 1254, 1255, 1256, 1257, 1258, 1259, 1260, 1261, 1262, 1263, 1264, 1265, 1266, 1267, 1268, 1269, 1270, 1271, 1272, 1273, 1274, 1275, 1276, 1277, 1278, 1279, 1280, 1281, 1282, 1283, 1284, 1285, 1286, 1287, 1288] (by decide +kernel) (by decide +kernel)
set_option maxRecDepth 20000 in
theorem gL_law_X8_alone : GoodIn wsL_law (wsV RL 203 RX8 yX8_alone wsX8_alone) := goodIn_app (goodIn_of _ (by decide +kernel)) ggL_law_X8_alone
set_option maxRecDepth 20000 in
theorem ggL_law_X7_covered : GoodIn wsL_law wsX7_covered := goodIn_r _ [1117, 17, 244, 720, 721, 2, 722, 140, 141, 142, 143, 45, 283, 284, 285, 286, 16, 287, 288, 289, 15, 290, 50, 51, 291, 204, 205, 206, 52, 292, 53, 54, 55, 56, 57, 293, 58, 59, 294, 295, 296, 297, 298, 299, 300, 301, 302, 303, 304, 305, 306, 307, 308, 309, 310, 311, 312, 313, 314, 315, 316, 317, 318, 319, 320, 321, 322, 323, 324, 325, 326, 327, 328, 329, 330, 331, 332, 333, 68, 69, 334, 335, 336, 337, 338, 339, 340, 341, 694, 903, 904, 905, 906, 1240, 1241, 1242, 1243, 1244, 1245, 1246, 1247, 1248, 1249, 1250, 1251, 1289, 1290, 1291, 1292, 1293, 1294, 1295, 1296, 1297, 1298, 1299, 1300] (by decide +kernel) (by decide +kernel)
set_option maxRecDepth 20000 in
theorem gL_law_X7_covered : GoodIn wsL_law (wsV RL 204 RX7 yX7_covered wsX7_covered) := goodIn_app (goodIn_of _ (by decide +kernel)) ggL_law_X7_covered
set_option maxRecDepth 20000 in
theorem ggL_law_X8_covered : GoodIn wsL_law wsX8_covered := goodIn_r _ [1121, 261, 126, 727, 728, 5, 729, 730, 156, 157, 158, 159, 160, 161, 162, 114, 731, 732, 733, 734, 350, 351, 352, 353, 121, 354, 355, 356, 357, 358, 359, 127, 360, 361, 362, 363, 117, 364, 365, 120, 119, 366, 367, 368, 369, 116, 370, 371, 372, 373, 374, 375, 376, 377, 128, 378, 379, 380, 381, 115, 125, 382, 383, 384, 385, 1252, 1253, 1254, 1255, 1256, 1257, 1258, 1259, 1260, 1261, 1262, 1263, 1264, 1265, 1266, 1267, 1268, 1269, 1270, 1271, 1272, 1273, 1274, 1275, 1276, 1277, 1278, 1279, 1280, 1281, 1282, 1283, 1284, 1285, 1286, 1287, 1288] (by decide +kernel) (by decide +kernel)
set_option maxRecDepth 20000 in
theorem gL_law_X8_covered : GoodIn wsL_law (wsV RL 207 RX8 yX8_covered wsX8_covered) := goodIn_app (goodIn_of _ (by decide +kernel)) ggL_law_X8_covered
set_option maxRecDepth 20000 in
theorem ggL_law_X7_reach : GoodIn wsL_law wsX7_reach := goodIn_r _ [1125, 16, 390, 404, 405, 406, 2, 407, 140, 141, 142, 143, 45, 711, 323, 324, 15, 325, 52, 1240, 1241, 1242, 1243, 1244, 1245, 1246, 1247, 1248, 1249, 1250, 1251, 1289, 1290, 1291, 1292, 1293, 1294, 1295, 1296, 1297, 1298, 1299, 1300] (by decide +kernel) (by decide +kernel)
set_option maxRecDepth 20000 in
theorem gL_law_X7_reach : GoodIn wsL_law (wsV RL 208 RX7 yX7_reach wsX7_reach) := goodIn_app (goodIn_of _ (by decide +kernel)) ggL_law_X7_reach
set_option maxRecDepth 20000 in
theorem ggL_law_X8_reach : GoodIn wsL_law wsX8_reach := goodIn_r _ [1129, 395, 115, 125, 422, 423, 424, 5, 425, 156, 157, 158, 159, 160, 161, 162, 114, 382, 383, 384, 385, 116, 1252, 1253, 1254, 1255, 1256, 1257, 1258, 1259, 1260, 1261, 1262, 1263, 1264, 1265, 1266, 1267, 1268, 1269, 1270, 1271, 1272, 1273, 1274, 1275, 1276, 1277, 1278, 1279, 1280, 1281, 1282, 1283, 1284, 1285, 1286, 1287, 1288] (by decide +kernel) (by decide +kernel)
set_option maxRecDepth 20000 in
theorem gL_law_X8_reach : GoodIn wsL_law (wsV RL 211 RX8 yX8_reach wsX8_reach) := goodIn_app (goodIn_of _ (by decide +kernel)) ggL_law_X8_reach
set_option maxRecDepth 20000 in
theorem ggL_law_X7_farthest : GoodIn wsL_law wsX7_farthest := goodIn_r _ [1133, 43, 16, 390, 828, 404, 405, 406, 2, 407, 140, 141, 142, 143, 45, 835, 836, 837, 42, 838, 839, 840, 711, 323, 324, 15, 325, 52, 852, 853, 854, 855, 1240, 1241, 1242, 1243, 1244, 1245, 1246, 1247, 1248, 1249, 1250, 1251, 1289, 1290, 1291, 1292, 1293, 1294, 1295, 1296, 1297, 1298, 1299, 1300, 1315, 1316] (by decide +kernel) (by decide +kernel)
set_option maxRecDepth 20000 in
theorem gL_law_X7_farthest : GoodIn wsL_law (wsV RL 212 RX7 yX7_farthest wsX7_farthest) := goodIn_app (goodIn_of _ (by decide +kernel)) ggL_law_X7_farthest
set_option maxRecDepth 20000 in
theorem ggL_law_X8_farthest : GoodIn wsL_law wsX8_farthest := goodIn_r _ [1137, 115, 125, 422, 423, 424, 5, 425, 156, 157, 158, 159, 160, 161, 162, 114, 382, 383, 384, 385, 116, 1252, 1253, 1254, 1255, 1256, 1257, 1258, 1259, 1260, 1261, 1262, 1263, 1264, 1265, 1266, 1267, 1268, 1269, 1270, 1271, 1272, 1273, 1274, 1275, 1276, 1277, 1278, 1279, 1280, 1281, 1282, 1283, 1284, 1285, 1286, 1287, 1288] (by decide +kernel) (by decide +kernel)
set_option maxRecDepth 20000 in
theorem gL_law_X8_farthest : GoodIn wsL_law (wsV RL 215 RX8 yX8_farthest wsX8_farthest) := goodIn_app (goodIn_of _ (by decide +kernel)) ggL_law_X8_farthest
set_option maxRecDepth 20000 in
theorem ggL_law_X7_ofKind : GoodIn wsL_law wsX7_ofKind := goodIn_r _ [1141, 16, 244, 266, 269, 270, 2, 271, 140, 141, 142, 143, 45, 1240, 1241, 1242, 1243, 1244, 1245, 1246, 1247, 1248, 1249, 1250, 1251, 1289, 1290, 1291, 1292, 1293, 1294, 1295, 1296, 1297, 1298, 1299, 1300] (by decide +kernel) (by decide +kernel)
set_option maxRecDepth 20000 in
theorem gL_law_X7_ofKind : GoodIn wsL_law (wsV RL 216 RX7 yX7_ofKind wsX7_ofKind) := goodIn_app (goodIn_of _ (by decide +kernel)) ggL_law_X7_ofKind
set_option maxRecDepth 20000 in
theorem ggL_law_X8_ofKind : GoodIn wsL_law wsX8_ofKind := goodIn_r _ [1145, 346, 261, 117, 156, 157, 5, 158, 159, 160, 161, 162, 114, 1252, 1253, 1254, 1255, 1256, 1257, 1258, 1259, 1260, 1261, 1262, 1263, 1264, 1265, 1266, 1267, 1268, 1269, 1270, 1271, 1272, 1273, 1274, 1275, 1276, 1277, 1278, 1279, 1280, 1281, 1282, 1283, 1284, 1285, 1286, 1287, 1288] (by decide +kernel) (by decide +kernel)
set_option maxRecDepth 20000 in
theorem gL_law_X8_ofKind : GoodIn wsL_law (wsV RL 219 RX8 yX8_ofKind wsX8_ofKind) := goodIn_app (goodIn_of _ (by decide +kernel)) ggL_law_X8_ofKind
set_option maxRecDepth 20000 in
theorem ggL_law_X7_judge : GoodIn wsL_law wsX7_judge := goodIn_r _ [1149, 17, 16, 21, 794, 795, 796, 2, 797, 798, 167, 168, 169, 170, 137, 138, 139, 171, 172, 173, 23, 174, 77, 175, 176, 177, 178, 140, 141, 142, 143, 45, 287, 288, 289, 15, 290, 50, 51, 291, 204, 205, 206, 52, 292, 53, 54, 55, 56, 57, 293, 58, 59, 799, 800, 801, 802, 202, 179, 180, 181, 182, 148, 739, 740, 741, 742, 302, 303, 304, 305, 306, 307, 308, 309, 803, 299, 300, 301, 310, 311, 312, 313, 314, 315, 316, 317, 318, 319, 320, 321, 322, 323, 324, 325, 326, 327, 328, 329, 330, 331, 332, 333, 68, 69, 334, 335, 336, 337, 338, 339, 340, 341, 1240, 1241, 1242, 1243, 1244, 1245, 1246, 1247, 1248, 1249, 1250, 1251, 1301, 1302, 1303, 1289, 1290, 1291, 1292, 1293, 1294, 1295, 1296, 1297, 1298, 1299, 1300] (by decide +kernel) (by decide +kernel)
set_option maxRecDepth 20000 in
theorem gL_law_X7_judge : GoodIn wsL_law (wsV RL 220 RX7 yX7_judge wsX7_judge) := goodIn_app (goodIn_of _ (by decide +kernel)) ggL_law_X7_judge
set_option maxRecDepth 20000 in
theorem ggL_law_X8_judge : GoodIn wsL_law wsX8_judge := goodIn_r _ [1153, 808, 809, 810, 5, 811, 153, 155, 108, 156, 157, 158, 159, 160, 161, 162, 114, 191, 192, 193, 194, 106, 812, 813, 814, 815, 110, 350, 351, 352, 353, 261, 126, 121, 354, 355, 759, 760, 761, 762, 115, 374, 375, 376, 377, 128, 117, 356, 357, 358, 359, 127, 360, 361, 362, 363, 364, 365, 120, 119, 366, 367, 368, 369, 116, 370, 371, 372, 373, 378, 379, 380, 381, 125, 382, 383, 384, 385, 1252, 1253, 1254, 1255, 1256, 1257, 1258, 1259, 1260, 1261, 1262, 1263, 1264, 1265, 1266, 1267, 1268, 1269, 1270, 1271, 1272, 1273, 1274, 1275, 1276, 1277, 1278, 1279, 1280, 1281, 1282, 1283, 1284, 1285, 1286, 1287, 1288] (by decide +kernel) (by decide +kernel)
set_option maxRecDepth 20000 in
theorem gL_law_X8_judge : GoodIn wsL_law (wsV RL 223 RX8 yX8_judge wsX8_judge) := goodIn_app (goodIn_of _ (by decide +kernel)) ggL_law_X8_judge
set_option maxRecDepth 20000 in
theorem ggL_law_X7_hours : GoodIn wsL_law wsX7_hours := goodIn_r _ [1157, 16, 955, 956, 2, 957, 140, 141, 142, 143, 45, 294, 295, 296, 15, 297, 298, 299, 300, 301, 292, 57, 302, 303, 304, 305, 306, 307, 308, 309, 53, 310, 311, 312, 313, 56, 55, 314, 315, 316, 317, 293, 318, 319, 320, 321, 50, 322, 323, 324, 325, 52, 326, 327, 328, 329, 51, 330, 331, 332, 333, 68, 69, 334, 335, 336, 337, 338, 339, 340, 341, 739, 740, 741, 742, 1240, 1241, 1242, 1243, 1244, 1245, 1246, 1247, 1248, 1249, 1250, 1251, 1289, 1290, 1291, 1292, 1293, 1294, 1295, 1296, 1297, 1298, 1299, 1300] (by decide +kernel) (by decide +kernel)
set_option maxRecDepth 20000 in
theorem gL_law_X7_hours : GoodIn wsL_law (wsV RL 224 RX7 yX7_hours wsX7_hours) := goodIn_app (goodIn_of _ (by decide +kernel)) ggL_law_X7_hours
set_option maxRecDepth 20000 in
theorem ggL_law_X8_hours : GoodIn wsL_law wsX8_hours := goodIn_r _ [1161, 730, 156, 157, 5, 158, 159, 160, 161, 162, 114, 731, 732, 733, 734, 350, 351, 352, 353, 261, 126, 121, 354, 355, 356, 357, 358, 359, 127, 360, 361, 362, 363, 117, 364, 365, 120, 119, 366, 367, 368, 369, 116, 370, 371, 372, 373, 374, 375, 376, 377, 128, 378, 379, 380, 381, 115, 125, 382, 383, 384, 385, 1162, 1163, 1164, 1165, 759, 760, 761, 762, 1252, 1253, 1254, 1255, 1256, 1257, 1258, 1259, 1260, 1261, 1262, 1263, 1264, 1265, 1266, 1267, 1268, 1269, 1270, 1271, 1272, 1273, 1274, 1275, 1276, 1277, 1278, 1279, 1280, 1281, 1282, 1283, 1284, 1285, 1286, 1287, 1288] (by decide +kernel) (by decide +kernel)
set_option maxRecDepth 20000 in
theorem gL_law_X8_hours : GoodIn wsL_law (wsV RL 227 RX8 yX8_hours wsX8_hours) := goodIn_app (goodIn_of _ (by decide +kernel)) ggL_law_X8_hours
set_option maxRecDepth 20000 in
theorem ggL_law_X7_drawn : GoodIn wsL_law wsX7_drawn := goodIn_r _ [1169, 16, 955, 956, 2, 957, 140, 141, 142, 143, 45, 1170, 1171, 1172, 15, 1173, 292, 53, 1174, 1175, 1176, 1177, 57, 51, 58, 50, 748, 749, 750, 751, 752, 753, 754, 1178, 1179, 1180, 1181, 59, 1182, 326, 327, 328, 329, 334, 335, 336, 337, 293, 338, 339, 340, 341, 743, 744, 745, 746, 747, 740, 741, 742, 302, 303, 304, 305, 306, 307, 308, 309, 1240, 1241, 1242, 1243, 1244, 1245, 1246, 1247, 1248, 1249, 1250, 1251, 1289, 1290, 1291, 1292, 1293, 1294, 1295, 1296, 1297, 1298, 1299, 1300] (by decide +kernel) (by decide +kernel)
set_option maxRecDepth 20000 in
theorem gL_law_X7_drawn : GoodIn wsL_law (wsV RL 228 RX7 yX7_drawn wsX7_drawn) := goodIn_app (goodIn_of _ (by decide +kernel)) ggL_law_X7_drawn
set_option maxRecDepth 20000 in
theorem ggL_law_X8_drawn : GoodIn wsL_law wsX8_drawn := goodIn_r _ [1186, 730, 261, 355, 156, 157, 5, 158, 159, 160, 161, 162, 114, 350, 351, 352, 353, 126, 121, 354, 1187, 1188, 1189, 1190, 117, 122, 116, 1191, 1192, 1193, 1194, 123, 1195, 763, 764, 765, 759, 760, 761, 762, 115, 374, 375, 376, 377, 128, 1162, 1163, 1164, 1165, 1252, 1253, 1254, 1255, 1256, 1257, 1258, 1259, 1260, 1261, 1262, 1263, 1264, 1265, 1266, 1267, 1268, 1269, 1270, 1271, 1272, 1273, 1274, 1275, 1276, 1277, 1278, 1279, 1280, 1281, 1282, 1283, 1284, 1285, 1286, 1287, 1288] (by decide +kernel) (by decide +kernel)
set_option maxRecDepth 20000 in
theorem gL_law_X8_drawn : GoodIn wsL_law (wsV RL 231 RX8 yX8_drawn wsX8_drawn) := goodIn_app (goodIn_of _ (by decide +kernel)) ggL_law_X8_drawn
set_option maxRecDepth 20000 in
theorem ggL_law_X7_seed : GoodIn wsL_law wsX7_seed := goodIn_r _ [1199, 16, 1200, 1240, 1241, 1242, 1243, 1244, 1245, 1246, 1247, 1248, 1249, 1250, 1251, 1289, 1290, 1291, 1292, 1293, 1294, 1295, 1296, 1297, 1298, 1299, 1300] (by decide +kernel) (by decide +kernel)
set_option maxRecDepth 20000 in
theorem gL_law_X7_seed : GoodIn wsL_law (wsV RL 232 RX7 yX7_seed wsX7_seed) := goodIn_app (goodIn_of _ (by decide +kernel)) ggL_law_X7_seed
set_option maxRecDepth 20000 in
theorem ggL_law_X8_seed : GoodIn wsL_law wsX8_seed := goodIn_r _ [1204, 123, 1252, 1253, 1254, 1255, 1256, 1257, 1258, 1259, 1260, 1261, 1262, 1263, 1264, 1265, 1266, 1267, 1268, 1269, 1270, 1271, 1272, 1273, 1274, 1275, 1276, 1277, 1278, 1279, 1280, 1281, 1282, 1283, 1284, 1285, 1286, 1287, 1288] (by decide +kernel) (by decide +kernel)
set_option maxRecDepth 20000 in
theorem gL_law_X8_seed : GoodIn wsL_law (wsV RL 235 RX8 yX8_seed wsX8_seed) := goodIn_app (goodIn_of _ (by decide +kernel)) ggL_law_X8_seed
set_option maxRecDepth 20000 in
theorem ggL_law_X7_image : GoodIn wsL_law wsX7_image := goodIn_r _ [1208, 19, 16, 1209, 287, 288, 289, 15, 290, 50, 51, 291, 204, 205, 206, 52, 292, 53, 54, 55, 56, 57, 293, 58, 59, 1240, 1241, 1242, 1243, 1244, 1245, 1246, 1247, 1248, 1249, 1250, 1251, 1289, 1290, 1291, 1292, 1293, 1294, 1295, 1296, 1297, 1298, 1299, 1300] (by decide +kernel) (by decide +kernel)
set_option maxRecDepth 20000 in
theorem gL_law_X7_image : GoodIn wsL_law (wsV RL 236 RX7 yX7_image wsX7_image) := goodIn_app (goodIn_of _ (by decide +kernel)) ggL_law_X7_image
set_option maxRecDepth 20000 in
theorem ggL_law_X8_image : GoodIn wsL_law wsX8_image := goodIn_r _ [1213, 1214, 631, 4, 5, 634, 103, 104, 105, 11, 12, 44, 106, 107, 108, 109, 78, 110, 111, 112, 113, 114, 115, 116, 117, 118, 119, 120, 121, 122, 123, 124, 125, 126, 127, 128, 129, 130, 131, 132, 635, 636, 637, 638, 261, 354, 639, 640, 641, 1252, 1253, 1254, 1255, 1256, 1257, 1258, 1259, 1260, 1261, 1262, 1263, 1264, 1265, 1266, 1267, 1268, 1269, 1270, 1271, 1272, 1273, 1274, 1275, 1276, 1277, 1278, 1279, 1280, 1281, 1282, 1283, 1284, 1285, 1286, 1287, 1288] (by decide +kernel) (by decide +kernel)
set_option maxRecDepth 20000 in
theorem gL_law_X8_image : GoodIn wsL_law (wsV RL 239 RX8 yX8_image wsX8_image) := goodIn_app (goodIn_of _ (by decide +kernel)) ggL_law_X8_image
set_option maxRecDepth 20000 in
theorem ggL_law_X7_back : GoodIn wsL_law wsX7_back := goodIn_r _ [1218, 1209, 16, 19, 21, 140, 141, 142, 2, 143, 45, 287, 288, 289, 15, 290, 50, 51, 291, 204, 205, 206, 52, 292, 53, 54, 55, 56, 57, 293, 58, 59, 171, 172, 173, 23, 174, 77, 276, 277, 278, 279, 240, 241, 242, 243, 244, 245, 246, 247, 248, 148, 1240, 1241, 1242, 1243, 1244, 1245, 1246, 1247, 1248, 1249, 1250, 1251, 1289, 1290, 1291, 1292, 1293, 1294, 1295, 1296, 1297, 1298, 1299, 1300, 1301, 1302, 1303] (by decide +kernel) (by decide +kernel)
set_option maxRecDepth 20000 in
theorem gL_law_X7_back : GoodIn wsL_law (wsV RL 240 RX7 yX7_back wsX7_back) := goodIn_app (goodIn_of _ (by decide +kernel)) ggL_law_X7_back
set_option maxRecDepth 20000 in
theorem ggL_law_X8_back : GoodIn wsL_law wsX8_back := goodIn_r _ [1222, 1214, 106, 112, 261, 159, 160, 161, 5, 162, 114, 635, 636, 637, 638, 115, 116, 117, 118, 119, 120, 121, 354, 122, 123, 639, 640, 641, 1252, 1253, 1254, 1255, 1256, 1257, 1258, 1259, 1260, 1261, 1262, 1263, 1264, 1265, 1266, 1267, 1268, 1269, 1270, 1271, 1272, 1273, 1274, 1275, 1276, 1277, 1278, 1279, 1280, 1281, 1282, 1283, 1284, 1285, 1286, 1287, 1288] (by decide +kernel) (by decide +kernel)
set_option maxRecDepth 20000 in
theorem gL_law_X8_back : GoodIn wsL_law (wsV RL 243 RX8 yX8_back wsX8_back) := goodIn_app (goodIn_of _ (by decide +kernel)) ggL_law_X8_back
set_option maxRecDepth 20000 in
theorem ggL_law_X7_status : GoodIn wsL_law wsX7_status := goodIn_r _ [1226, 45, 16, 390, 244, 462, 463, 27, 473, 1200, 1227, 1228, 1229, 15, 1230, 50, 51, 748, 749, 750, 751, 752, 753, 754, 739, 740, 741, 742, 302, 303, 304, 305, 292, 57, 306, 307, 308, 309, 53, 1231, 1232, 1233, 2, 1234, 21, 175, 176, 177, 23, 178, 77, 1240, 1241, 1242, 1243, 1244, 1245, 1246, 1247, 1248, 1249, 1250, 1251, 1289, 1290, 1291, 1292, 1293, 1294, 1295, 1296, 1297, 1298, 1299, 1300, 1304, 1305, 1301, 1302, 1303] (by decide +kernel) (by decide +kernel)
set_option maxRecDepth 20000 in
theorem gL_law_X7_status : GoodIn wsL_law (wsV RL 244 RX7 yX7_status wsX7_status) := goodIn_app (goodIn_of _ (by decide +kernel)) ggL_law_X7_status
set_option maxRecDepth 20000 in
theorem ggL_law_X8_status : GoodIn wsL_law wsX8_status := goodIn_r _ [1238, 115, 116, 261, 354, 122, 484, 123, 106, 395, 1239, 114, 763, 764, 5, 765, 350, 351, 352, 353, 126, 121, 355, 759, 760, 761, 762, 374, 375, 376, 377, 128, 117, 156, 157, 158, 1252, 1253, 1254, 1255, 1256, 1257, 1258, 1259, 1260, 1261, 1262, 1263, 1264, 1265, 1266, 1267, 1268, 1269, 1270, 1271, 1272, 1273, 1274, 1275, 1276, 1277, 1278, 1279, 1280, 1281, 1282, 1283, 1284, 1285, 1286, 1287, 1288] (by decide +kernel) (by decide +kernel)
set_option maxRecDepth 20000 in
theorem gL_law_X8_status : GoodIn wsL_law (wsV RL 247 RX8 yX8_status wsX8_status) := goodIn_app (goodIn_of _ (by decide +kernel)) ggL_law_X8_status
