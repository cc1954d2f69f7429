set_option maxRecDepth 20000 in
theorem ggL_law_X14_count : GoodIn wsL_law wsX14_count := goodIn_r _ [815, 187, 211, 212, 5, 213, 816, 817, 818, 819, 106, 111, 31, 188, 820, 821, 822, 110, 823, 189, 190, 191, 192, 1272, 1273, 1274, 1275, 1276, 1277, 1278, 1279, 1280, 1281, 1282, 1283, 1284, 1285, 1286, 1341, 1342, 1343, 1344, 1345, 1346, 1347, 1348, 1349, 1350, 1351, 1352, 1353, 1354, 1355, 1356, 1357, 1358, 1359, 1360, 1361, 1362, 1363, 1364, 1365, 1366, 1367, 1368, 1369, 1370, 1371, 1372, 1373, 1374, 1375, 1376, 1377, 1378, 1379, 1380, 1381, 1382, 1383, 1384] (by decide +kernel) (by decide +kernel)
set_option maxRecDepth 20000 in
theorem gL_law_X14_count : GoodIn wsL_law (wsV RL 95 RX14 yX14_count wsX14_count) := goodIn_app (goodIn_of _ (by decide +kernel)) ggL_law_X14_count
set_option maxRecDepth 20000 in
theorem ggL_law_L_ground : GoodIn wsL_law wsL_ground := goodIn_ca (goodIn_r _ [826, 777, 827, 828, 829, 2, 830, 782, 783, 20, 831, 832, 833, 834, 835, 836, 837, 838, 839, 784, 840, 793, 794, 56, 795, 78, 1268, 1269, 1270, 1271, 1293, 1294, 1295, 1296, 1297, 1298, 1299, 1300, 1301, 1302, 1303, 1304, 1305, 1306, 1307, 1308, 1309, 1314, 1315, 1316, 1317] (by decide +kernel) (by decide +kernel)) (goodIn_sub (fun _ h => List.mem_append_right _ h) (by decide +kernel))
set_option maxRecDepth 20000 in
theorem gL_law_L_ground : GoodIn wsL_law (va_wsS RL 96 yL_ground wsL_ground) := goodIn_app (goodIn_of _ (by decide +kernel)) ggL_law_L_ground
set_option maxRecDepth 20000 in
theorem ggL_law_X14_ground : GoodIn wsL_law wsX14_ground := goodIn_r _ [844, 187, 845, 846, 847, 5, 848, 106, 211, 212, 213, 849, 850, 851, 852, 111, 853, 854, 855, 110, 856, 137, 857, 858, 859, 860, 189, 190, 191, 192, 1272, 1273, 1274, 1275, 1276, 1277, 1278, 1279, 1280, 1281, 1282, 1283, 1284, 1285, 1286, 1341, 1342, 1343, 1344, 1345, 1346, 1347, 1348, 1349, 1350, 1351, 1352, 1353, 1354, 1355, 1356, 1357, 1358, 1359, 1360, 1361, 1362, 1363, 1364, 1365, 1366, 1367, 1368, 1369, 1370, 1371, 1372, 1373, 1374, 1375, 1376, 1377, 1378, 1379, 1380, 1381, 1382, 1383, 1384] (by decide +kernel) (by decide +kernel)
set_option maxRecDepth 20000 in
theorem gL_law_X14_ground : GoodIn wsL_law (wsV RL 99 RX14 yX14_ground wsX14_ground) := goodIn_app (goodIn_of _ (by decide +kernel)) ggL_law_X14_ground
set_option maxRecDepth 20000 in
theorem ggL_law_L_fisher : GoodIn wsL_law wsL_fisher := goodIn_ca (goodIn_r _ [863, 777, 864, 865, 866, 2, 867, 782, 783, 20, 868, 869, 870, 871, 872, 873, 874, 875, 876, 877, 878, 879, 880, 881, 882, 785, 1268, 1269, 1270, 1271, 1293, 1294, 1295, 1296, 1297, 1298, 1299, 1300, 1301, 1302, 1303, 1304, 1305, 1306, 1307, 1308, 1309, 1318, 1319, 1320, 1321, 1322, 1323, 1324, 1325, 1326, 1327, 1328] (by decide +kernel) (by decide +kernel)) (goodIn_sub (fun _ h => List.mem_append_right _ h) (by decide +kernel))
set_option maxRecDepth 20000 in
theorem gL_law_L_fisher : GoodIn wsL_law (va_wsS RL 100 yL_fisher wsL_fisher) := goodIn_app (goodIn_of _ (by decide +kernel)) ggL_law_L_fisher
set_option maxRecDepth 20000 in
theorem ggL_law_X14_fisher : GoodIn wsL_law wsX14_fisher := goodIn_r _ [886, 187, 887, 888, 889, 5, 890, 106, 211, 212, 213, 891, 892, 893, 894, 31, 111, 895, 896, 897, 898, 189, 190, 191, 192, 1272, 1273, 1274, 1275, 1276, 1277, 1278, 1279, 1280, 1281, 1282, 1283, 1284, 1285, 1286, 1341, 1342, 1343, 1344, 1345, 1346, 1347, 1348, 1349, 1350, 1351, 1352, 1353, 1354, 1355, 1356, 1357, 1358, 1359, 1360, 1361, 1362, 1363, 1364, 1365, 1366, 1367, 1368, 1369, 1370, 1371, 1372, 1373, 1374, 1375, 1376, 1377, 1378, 1379, 1380, 1381, 1382, 1383, 1384] (by decide +kernel) (by decide +kernel)
set_option maxRecDepth 20000 in
theorem gL_law_X14_fisher : GoodIn wsL_law (wsV RL 102 RX14 yX14_fisher wsX14_fisher) := goodIn_app (goodIn_of _ (by decide +kernel)) ggL_law_X14_fisher
set_option maxRecDepth 20000 in
theorem ggL_law_L_pact : GoodIn wsL_law wsL_pact := goodIn_ca (goodIn_r _ [901, 777, 902, 903, 904, 2, 905, 782, 783, 20, 787, 906, 907, 908, 909, 910, 911, 912, 913, 914, 915, 62, 916, 87, 1268, 1269, 1270, 1271, 1293, 1294, 1295, 1296, 1297, 1298, 1299, 1300, 1301, 1302, 1303, 1304, 1305, 1306, 1307, 1308, 1309, 1329, 1330, 1331, 1332, 1333, 1334, 1335, 1336] (by decide +kernel) (by decide +kernel)) (goodIn_sub (fun _ h => List.mem_append_right _ h) (by decide +kernel))
set_option maxRecDepth 20000 in
theorem gL_law_L_pact : GoodIn wsL_law (va_wsS RL 103 yL_pact wsL_pact) := goodIn_app (goodIn_of _ (by decide +kernel)) ggL_law_L_pact
set_option maxRecDepth 20000 in
theorem ggL_law_X14_pact : GoodIn wsL_law wsX14_pact := goodIn_r _ [920, 187, 106, 211, 212, 5, 213, 921, 922, 923, 924, 31, 111, 189, 190, 191, 192, 1272, 1273, 1274, 1275, 1276, 1277, 1278, 1279, 1280, 1281, 1282, 1283, 1284, 1285, 1286, 1341, 1342, 1343, 1344, 1345, 1346, 1347, 1348, 1349, 1350, 1351, 1352, 1353, 1354, 1355, 1356, 1357, 1358, 1359, 1360, 1361, 1362, 1363, 1364, 1365, 1366, 1367, 1368, 1369, 1370, 1371, 1372, 1373, 1374, 1375, 1376, 1377, 1378, 1379, 1380, 1381, 1382, 1383, 1384] (by decide +kernel) (by decide +kernel)
set_option maxRecDepth 20000 in
theorem gL_law_X14_pact : GoodIn wsL_law (wsV RL 105 RX14 yX14_pact wsX14_pact) := goodIn_app (goodIn_of _ (by decide +kernel)) ggL_law_X14_pact
set_option maxRecDepth 20000 in
theorem ggL_law_L_cheat : GoodIn wsL_law wsL_cheat := goodIn_ca (goodIn_r _ [927, 777, 928, 929, 930, 2, 931, 20, 868, 877, 879, 880, 881, 882, 782, 783, 785, 807, 808, 809, 19, 810, 361, 43, 811, 1268, 1269, 1270, 1271, 1293, 1294, 1295, 1296, 1297, 1298, 1299, 1300, 1301, 1302, 1303, 1304, 1305, 1306, 1307, 1308, 1309, 1318, 1319, 1320, 1321, 1322, 1323, 1324, 1325, 1326, 1327, 1328] (by decide +kernel) (by decide +kernel)) (goodIn_sub (fun _ h => List.mem_append_right _ h) (by decide +kernel))
set_option maxRecDepth 20000 in
theorem gL_law_L_cheat : GoodIn wsL_law (va_wsS RL 106 yL_cheat wsL_cheat) := goodIn_app (goodIn_of _ (by decide +kernel)) ggL_law_L_cheat
set_option maxRecDepth 20000 in
theorem ggL_law_X14_cheat : GoodIn wsL_law wsX14_cheat := goodIn_r _ [935, 187, 111, 887, 888, 889, 5, 890, 106, 211, 212, 213, 189, 190, 191, 192, 820, 821, 822, 110, 823, 1272, 1273, 1274, 1275, 1276, 1277, 1278, 1279, 1280, 1281, 1282, 1283, 1284, 1285, 1286, 1366, 1367, 1368, 1369, 1370, 1371, 1372, 1373, 1374, 1375, 1376, 1377, 1378, 1379, 1380, 1381, 1382, 1383, 1384, 1341, 1342, 1343, 1344, 1345, 1346, 1347, 1348, 1349, 1350, 1351, 1352, 1353, 1354, 1355, 1356, 1357, 1358, 1359, 1360, 1361, 1362, 1363, 1364, 1365] (by decide +kernel) (by decide +kernel)
set_option maxRecDepth 20000 in
theorem gL_law_X14_cheat : GoodIn wsL_law (wsV RL 109 RX14 yX14_cheat wsX14_cheat) := goodIn_app (goodIn_of _ (by decide +kernel)) ggL_law_X14_cheat
set_option maxRecDepth 20000 in
theorem ggL_law_L_mend : GoodIn wsL_law wsL_mend := goodIn_ca (goodIn_ca (goodIn_r _ [938, 777, 939, 940, 941, 2, 942, 175, 176, 20, 868, 869, 870, 873, 879, 880, 881, 882, 782, 783, 785, 1268, 1269, 1270, 1271, 1293, 1294, 1295, 1296, 1297, 1298, 1299, 1300, 1301, 1302, 1303, 1304, 1305, 1306, 1307, 1308, 1309, 1318, 1319, 1320, 1321, 1322, 1323, 1324, 1325, 1326, 1327, 1328] (by decide +kernel) (by decide +kernel)) (goodIn_sub (fun _ h => List.mem_append_left _ (List.mem_append_left _ (List.mem_append_right _ h))) (by decide +kernel))) (goodIn_sub (fun _ h => List.mem_append_right _ h) (by decide +kernel))
set_option maxRecDepth 20000 in
theorem gL_law_L_mend : GoodIn wsL_law (va_wsS RL 110 yL_mend wsL_mend) := goodIn_app (goodIn_of _ (by decide +kernel)) ggL_law_L_mend
set_option maxRecDepth 20000 in
theorem ggL_law_X14_mend : GoodIn wsL_law wsX14_mend := goodIn_r _ [946, 187, 111, 106, 887, 888, 889, 5, 890, 211, 212, 213, 189, 190, 191, 192, 1272, 1273, 1274, 1275, 1276, 1277, 1278, 1279, 1280, 1281, 1282, 1283, 1284, 1285, 1286, 1366, 1367, 1368, 1369, 1370, 1371, 1372, 1373, 1374, 1375, 1376, 1377, 1378, 1379, 1380, 1381, 1382, 1383, 1384, 1341, 1342, 1343, 1344, 1345, 1346, 1347, 1348, 1349, 1350, 1351, 1352, 1353, 1354, 1355, 1356, 1357, 1358, 1359, 1360, 1361, 1362, 1363, 1364, 1365] (by decide +kernel) (by decide +kernel)
set_option maxRecDepth 20000 in
theorem gL_law_X14_mend : GoodIn wsL_law (wsV RL 112 RX14 yX14_mend wsX14_mend) := goodIn_app (goodIn_of _ (by decide +kernel)) ggL_law_X14_mend
set_option maxRecDepth 20000 in
theorem ggL_law_L_lot : GoodIn wsL_law wsL_lot := goodIn_ca (goodIn_r _ [949, 777, 950, 951, 952, 2, 953, 782, 783, 20, 785, 954, 955, 956, 957, 19, 958, 39, 361, 53, 959, 52, 1268, 1269, 1270, 1271, 1293, 1294, 1295, 1296, 1297, 1298, 1299, 1300, 1301, 1302, 1303, 1304, 1305, 1306, 1307, 1308, 1309] (by decide +kernel) (by decide +kernel)) (goodIn_sub (fun _ h => List.mem_append_right _ h) (by decide +kernel))
set_option maxRecDepth 20000 in
theorem gL_law_L_lot : GoodIn wsL_law (va_wsS RL 113 yL_lot wsL_lot) := goodIn_app (goodIn_of _ (by decide +kernel)) ggL_law_L_lot
