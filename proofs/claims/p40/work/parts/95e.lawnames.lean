theorem dL_law_1236 : decode cL_law 1236 = .ok (.pop, 1) := tb_d tk_L_law_22 26 (1236, .pop, 1) rfl
theorem dL_law_1237 : decode cL_law 1237 = .ok (.aload_n 2, 1) := tb_d tk_L_law_22 27 (1237, .aload_n 2, 1) rfl
theorem dL_law_1238 : decode cL_law 1238 = .ok (.aload_n 0, 1) := tb_d tk_L_law_22 28 (1238, .aload_n 0, 1) rfl
theorem dL_law_1239 : decode cL_law 1239 = .ok (.iload_n 3, 1) := tb_d tk_L_law_22 29 (1239, .iload_n 3, 1) rfl
theorem dL_law_1240 : decode cL_law 1240 = .ok (.iconst 1, 1) := tb_d tk_L_law_22 30 (1240, .iconst 1, 1) rfl
theorem dL_law_1241 : decode cL_law 1241 = .ok (.iadd, 1) := tb_d tk_L_law_22 31 (1241, .iadd, 1) rfl
theorem dL_law_1242 : decode cL_law 1242 = .ok (.iaload, 1) := tb_d tk_L_law_22 32 (1242, .iaload, 1) rfl
theorem dL_law_1243 : decode cL_law 1243 = .ok (.invokevirtual 146, 3) := tb_d tk_L_law_22 33 (1243, .invokevirtual 146, 3) rfl
theorem dL_law_1246 : decode cL_law 1246 = .ok (.pop, 1) := tb_d tk_L_law_22 34 (1246, .pop, 1) rfl
theorem dL_law_1247 : decode cL_law 1247 = .ok (.goto 174, 3) := tb_d tk_L_law_22 35 (1247, .goto 174, 3) rfl
theorem dL_law_1250 : decode cL_law 1250 = .ok (.aload_n 1, 1) := tb_d tk_L_law_22 36 (1250, .aload_n 1, 1) rfl
theorem dL_law_1251 : decode cL_law 1251 = .ok (.aload_n 0, 1) := tb_d tk_L_law_22 37 (1251, .aload_n 0, 1) rfl
theorem dL_law_1252 : decode cL_law 1252 = .ok (.iload_n 3, 1) := tb_d tk_L_law_22 38 (1252, .iload_n 3, 1) rfl
theorem dL_law_1253 : decode cL_law 1253 = .ok (.iconst 1, 1) := tb_d tk_L_law_22 39 (1253, .iconst 1, 1) rfl
def tb_L_law_23 : List (Nat × Instr × Nat) := [(1254, .iadd, 1), (1255, .iaload, 1), (1256, .invokevirtual 147, 3), (1259, .pop, 1), (1260, .aload_n 2, 1), (1261, .aload_n 0, 1), (1262, .iload_n 3, 1), (1263, .iconst 1, 1), (1264, .iadd, 1), (1265, .iaload, 1), (1266, .invokevirtual 150, 3), (1269, .pop, 1), (1270, .goto 151, 3), (1273, .aload_n 1, 1), (1274, .aload_n 0, 1), (1275, .iload_n 3, 1), (1276, .iconst 1, 1), (1277, .iadd, 1), (1278, .iaload, 1), (1279, .invokevirtual 151, 3), (1282, .pop, 1), (1283, .aload_n 2, 1), (1284, .aload_n 0, 1), (1285, .iload_n 3, 1), (1286, .iconst 1, 1), (1287, .iadd, 1), (1288, .iaload, 1), (1289, .invokevirtual 154, 3), (1292, .pop, 1), (1293, .goto 128, 3), (1296, .aload_n 1, 1), (1297, .aload_n 0, 1), (1298, .iload_n 3, 1), (1299, .iconst 1, 1), (1300, .iadd, 1), (1301, .iaload, 1), (1302, .aload_n 0, 1), (1303, .iload_n 3, 1), (1304, .iconst 2, 1), (1305, .iadd, 1)]
set_option maxRecDepth 100000 in
theorem tk_L_law_23 : (tb_L_law_23.all fun q => decide (decode cL_law q.1 = .ok q.2)) = true := by decide +kernel
theorem dL_law_1254 : decode cL_law 1254 = .ok (.iadd, 1) := tb_d tk_L_law_23 0 (1254, .iadd, 1) rfl
theorem dL_law_1255 : decode cL_law 1255 = .ok (.iaload, 1) := tb_d tk_L_law_23 1 (1255, .iaload, 1) rfl
theorem dL_law_1256 : decode cL_law 1256 = .ok (.invokevirtual 147, 3) := tb_d tk_L_law_23 2 (1256, .invokevirtual 147, 3) rfl
theorem dL_law_1259 : decode cL_law 1259 = .ok (.pop, 1) := tb_d tk_L_law_23 3 (1259, .pop, 1) rfl
theorem dL_law_1260 : decode cL_law 1260 = .ok (.aload_n 2, 1) := tb_d tk_L_law_23 4 (1260, .aload_n 2, 1) rfl
theorem dL_law_1261 : decode cL_law 1261 = .ok (.aload_n 0, 1) := tb_d tk_L_law_23 5 (1261, .aload_n 0, 1) rfl
theorem dL_law_1262 : decode cL_law 1262 = .ok (.iload_n 3, 1) := tb_d tk_L_law_23 6 (1262, .iload_n 3, 1) rfl
theorem dL_law_1263 : decode cL_law 1263 = .ok (.iconst 1, 1) := tb_d tk_L_law_23 7 (1263, .iconst 1, 1) rfl
theorem dL_law_1264 : decode cL_law 1264 = .ok (.iadd, 1) := tb_d tk_L_law_23 8 (1264, .iadd, 1) rfl
theorem dL_law_1265 : decode cL_law 1265 = .ok (.iaload, 1) := tb_d tk_L_law_23 9 (1265, .iaload, 1) rfl
theorem dL_law_1266 : decode cL_law 1266 = .ok (.invokevirtual 150, 3) := tb_d tk_L_law_23 10 (1266, .invokevirtual 150, 3) rfl
theorem dL_law_1269 : decode cL_law 1269 = .ok (.pop, 1) := tb_d tk_L_law_23 11 (1269, .pop, 1) rfl
theorem dL_law_1270 : decode cL_law 1270 = .ok (.goto 151, 3) := tb_d tk_L_law_23 12 (1270, .goto 151, 3) rfl
theorem dL_law_1273 : decode cL_law 1273 = .ok (.aload_n 1, 1) := tb_d tk_L_law_23 13 (1273, .aload_n 1, 1) rfl
theorem dL_law_1274 : decode cL_law 1274 = .ok (.aload_n 0, 1) := tb_d tk_L_law_23 14 (1274, .aload_n 0, 1) rfl
theorem dL_law_1275 : decode cL_law 1275 = .ok (.iload_n 3, 1) := tb_d tk_L_law_23 15 (1275, .iload_n 3, 1) rfl
theorem dL_law_1276 : decode cL_law 1276 = .ok (.iconst 1, 1) := tb_d tk_L_law_23 16 (1276, .iconst 1, 1) rfl
theorem dL_law_1277 : decode cL_law 1277 = .ok (.iadd, 1) := tb_d tk_L_law_23 17 (1277, .iadd, 1) rfl
theorem dL_law_1278 : decode cL_law 1278 = .ok (.iaload, 1) := tb_d tk_L_law_23 18 (1278, .iaload, 1) rfl
theorem dL_law_1279 : decode cL_law 1279 = .ok (.invokevirtual 151, 3) := tb_d tk_L_law_23 19 (1279, .invokevirtual 151, 3) rfl
theorem dL_law_1282 : decode cL_law 1282 = .ok (.pop, 1) := tb_d tk_L_law_23 20 (1282, .pop, 1) rfl
theorem dL_law_1283 : decode cL_law 1283 = .ok (.aload_n 2, 1) := tb_d tk_L_law_23 21 (1283, .aload_n 2, 1) rfl
theorem dL_law_1284 : decode cL_law 1284 = .ok (.aload_n 0, 1) := tb_d tk_L_law_23 22 (1284, .aload_n 0, 1) rfl
theorem dL_law_1285 : decode cL_law 1285 = .ok (.iload_n 3, 1) := tb_d tk_L_law_23 23 (1285, .iload_n 3, 1) rfl
theorem dL_law_1286 : decode cL_law 1286 = .ok (.iconst 1, 1) := tb_d tk_L_law_23 24 (1286, .iconst 1, 1) rfl
theorem dL_law_1287 : decode cL_law 1287 = .ok (.iadd, 1) := tb_d tk_L_law_23 25 (1287, .iadd, 1) rfl
theorem dL_law_1288 : decode cL_law 1288 = .ok (.iaload, 1) := tb_d tk_L_law_23 26 (1288, .iaload, 1) rfl
theorem dL_law_1289 : decode cL_law 1289 = .ok (.invokevirtual 154, 3) := tb_d tk_L_law_23 27 (1289, .invokevirtual 154, 3) rfl
theorem dL_law_1292 : decode cL_law 1292 = .ok (.pop, 1) := tb_d tk_L_law_23 28 (1292, .pop, 1) rfl
theorem dL_law_1293 : decode cL_law 1293 = .ok (.goto 128, 3) := tb_d tk_L_law_23 29 (1293, .goto 128, 3) rfl
theorem dL_law_1296 : decode cL_law 1296 = .ok (.aload_n 1, 1) := tb_d tk_L_law_23 30 (1296, .aload_n 1, 1) rfl
theorem dL_law_1297 : decode cL_law 1297 = .ok (.aload_n 0, 1) := tb_d tk_L_law_23 31 (1297, .aload_n 0, 1) rfl
theorem dL_law_1298 : decode cL_law 1298 = .ok (.iload_n 3, 1) := tb_d tk_L_law_23 32 (1298, .iload_n 3, 1) rfl
theorem dL_law_1299 : decode cL_law 1299 = .ok (.iconst 1, 1) := tb_d tk_L_law_23 33 (1299, .iconst 1, 1) rfl
theorem dL_law_1300 : decode cL_law 1300 = .ok (.iadd, 1) := tb_d tk_L_law_23 34 (1300, .iadd, 1) rfl
theorem dL_law_1301 : decode cL_law 1301 = .ok (.iaload, 1) := tb_d tk_L_law_23 35 (1301, .iaload, 1) rfl
theorem dL_law_1302 : decode cL_law 1302 = .ok (.aload_n 0, 1) := tb_d tk_L_law_23 36 (1302, .aload_n 0, 1) rfl
theorem dL_law_1303 : decode cL_law 1303 = .ok (.iload_n 3, 1) := tb_d tk_L_law_23 37 (1303, .iload_n 3, 1) rfl
theorem dL_law_1304 : decode cL_law 1304 = .ok (.iconst 2, 1) := tb_d tk_L_law_23 38 (1304, .iconst 2, 1) rfl
theorem dL_law_1305 : decode cL_law 1305 = .ok (.iadd, 1) := tb_d tk_L_law_23 39 (1305, .iadd, 1) rfl
def tb_L_law_24 : List (Nat × Instr × Nat) := [(1306, .iaload, 1), (1307, .invokevirtual 155, 3), (1310, .pop, 1), (1311, .aload_n 2, 1), (1312, .aload_n 0, 1), (1313, .iload_n 3, 1), (1314, .iconst 1, 1), (1315, .iadd, 1), (1316, .iaload, 1), (1317, .aload_n 0, 1), (1318, .iload_n 3, 1), (1319, .iconst 2, 1), (1320, .iadd, 1), (1321, .iaload, 1), (1322, .invokevirtual 158, 3), (1325, .pop, 1), (1326, .goto 95, 3), (1329, .aload_n 1, 1), (1330, .aload_n 0, 1), (1331, .iload_n 3, 1), (1332, .iconst 1, 1), (1333, .iadd, 1), (1334, .iaload, 1), (1335, .aload_n 0, 1), (1336, .iload_n 3, 1), (1337, .iconst 2, 1), (1338, .iadd, 1), (1339, .iaload, 1), (1340, .invokevirtual 159, 3), (1343, .pop, 1), (1344, .aload_n 2, 1), (1345, .aload_n 0, 1), (1346, .iload_n 3, 1), (1347, .iconst 1, 1), (1348, .iadd, 1), (1349, .iaload, 1), (1350, .aload_n 0, 1), (1351, .iload_n 3, 1), (1352, .iconst 2, 1), (1353, .iadd, 1)]
set_option maxRecDepth 100000 in
theorem tk_L_law_24 : (tb_L_law_24.all fun q => decide (decode cL_law q.1 = .ok q.2)) = true := by decide +kernel
theorem dL_law_1306 : decode cL_law 1306 = .ok (.iaload, 1) := tb_d tk_L_law_24 0 (1306, .iaload, 1) rfl
theorem dL_law_1307 : decode cL_law 1307 = .ok (.invokevirtual 155, 3) := tb_d tk_L_law_24 1 (1307, .invokevirtual 155, 3) rfl
theorem dL_law_1310 : decode cL_law 1310 = .ok (.pop, 1) := tb_d tk_L_law_24 2 (1310, .pop, 1) rfl
theorem dL_law_1311 : decode cL_law 1311 = .ok (.aload_n 2, 1) := tb_d tk_L_law_24 3 (1311, .aload_n 2, 1) rfl
theorem dL_law_1312 : decode cL_law 1312 = .ok (.aload_n 0, 1) := tb_d tk_L_law_24 4 (1312, .aload_n 0, 1) rfl
theorem dL_law_1313 : decode cL_law 1313 = .ok (.iload_n 3, 1) := tb_d tk_L_law_24 5 (1313, .iload_n 3, 1) rfl
theorem dL_law_1314 : decode cL_law 1314 = .ok (.iconst 1, 1) := tb_d tk_L_law_24 6 (1314, .iconst 1, 1) rfl
theorem dL_law_1315 : decode cL_law 1315 = .ok (.iadd, 1) := tb_d tk_L_law_24 7 (1315, .iadd, 1) rfl
theorem dL_law_1316 : decode cL_law 1316 = .ok (.iaload, 1) := tb_d tk_L_law_24 8 (1316, .iaload, 1) rfl
theorem dL_law_1317 : decode cL_law 1317 = .ok (.aload_n 0, 1) := tb_d tk_L_law_24 9 (1317, .aload_n 0, 1) rfl
theorem dL_law_1318 : decode cL_law 1318 = .ok (.iload_n 3, 1) := tb_d tk_L_law_24 10 (1318, .iload_n 3, 1) rfl
theorem dL_law_1319 : decode cL_law 1319 = .ok (.iconst 2, 1) := tb_d tk_L_law_24 11 (1319, .iconst 2, 1) rfl
theorem dL_law_1320 : decode cL_law 1320 = .ok (.iadd, 1) := tb_d tk_L_law_24 12 (1320, .iadd, 1) rfl
theorem dL_law_1321 : decode cL_law 1321 = .ok (.iaload, 1) := tb_d tk_L_law_24 13 (1321, .iaload, 1) rfl
theorem dL_law_1322 : decode cL_law 1322 = .ok (.invokevirtual 158, 3) := tb_d tk_L_law_24 14 (1322, .invokevirtual 158, 3) rfl
theorem dL_law_1325 : decode cL_law 1325 = .ok (.pop, 1) := tb_d tk_L_law_24 15 (1325, .pop, 1) rfl
theorem dL_law_1326 : decode cL_law 1326 = .ok (.goto 95, 3) := tb_d tk_L_law_24 16 (1326, .goto 95, 3) rfl
theorem dL_law_1329 : decode cL_law 1329 = .ok (.aload_n 1, 1) := tb_d tk_L_law_24 17 (1329, .aload_n 1, 1) rfl
theorem dL_law_1330 : decode cL_law 1330 = .ok (.aload_n 0, 1) := tb_d tk_L_law_24 18 (1330, .aload_n 0, 1) rfl
theorem dL_law_1331 : decode cL_law 1331 = .ok (.iload_n 3, 1) := tb_d tk_L_law_24 19 (1331, .iload_n 3, 1) rfl
theorem dL_law_1332 : decode cL_law 1332 = .ok (.iconst 1, 1) := tb_d tk_L_law_24 20 (1332, .iconst 1, 1) rfl
theorem dL_law_1333 : decode cL_law 1333 = .ok (.iadd, 1) := tb_d tk_L_law_24 21 (1333, .iadd, 1) rfl
theorem dL_law_1334 : decode cL_law 1334 = .ok (.iaload, 1) := tb_d tk_L_law_24 22 (1334, .iaload, 1) rfl
theorem dL_law_1335 : decode cL_law 1335 = .ok (.aload_n 0, 1) := tb_d tk_L_law_24 23 (1335, .aload_n 0, 1) rfl
theorem dL_law_1336 : decode cL_law 1336 = .ok (.iload_n 3, 1) := tb_d tk_L_law_24 24 (1336, .iload_n 3, 1) rfl
theorem dL_law_1337 : decode cL_law 1337 = .ok (.iconst 2, 1) := tb_d tk_L_law_24 25 (1337, .iconst 2, 1) rfl
theorem dL_law_1338 : decode cL_law 1338 = .ok (.iadd, 1) := tb_d tk_L_law_24 26 (1338, .iadd, 1) rfl
theorem dL_law_1339 : decode cL_law 1339 = .ok (.iaload, 1) := tb_d tk_L_law_24 27 (1339, .iaload, 1) rfl
theorem dL_law_1340 : decode cL_law 1340 = .ok (.invokevirtual 159, 3) := tb_d tk_L_law_24 28 (1340, .invokevirtual 159, 3) rfl
theorem dL_law_1343 : decode cL_law 1343 = .ok (.pop, 1) := tb_d tk_L_law_24 29 (1343, .pop, 1) rfl
theorem dL_law_1344 : decode cL_law 1344 = .ok (.aload_n 2, 1) := tb_d tk_L_law_24 30 (1344, .aload_n 2, 1) rfl
theorem dL_law_1345 : decode cL_law 1345 = .ok (.aload_n 0, 1) := tb_d tk_L_law_24 31 (1345, .aload_n 0, 1) rfl
theorem dL_law_1346 : decode cL_law 1346 = .ok (.iload_n 3, 1) := tb_d tk_L_law_24 32 (1346, .iload_n 3, 1) rfl
theorem dL_law_1347 : decode cL_law 1347 = .ok (.iconst 1, 1) := tb_d tk_L_law_24 33 (1347, .iconst 1, 1) rfl
theorem dL_law_1348 : decode cL_law 1348 = .ok (.iadd, 1) := tb_d tk_L_law_24 34 (1348, .iadd, 1) rfl
theorem dL_law_1349 : decode cL_law 1349 = .ok (.iaload, 1) := tb_d tk_L_law_24 35 (1349, .iaload, 1) rfl
theorem dL_law_1350 : decode cL_law 1350 = .ok (.aload_n 0, 1) := tb_d tk_L_law_24 36 (1350, .aload_n 0, 1) rfl
theorem dL_law_1351 : decode cL_law 1351 = .ok (.iload_n 3, 1) := tb_d tk_L_law_24 37 (1351, .iload_n 3, 1) rfl
theorem dL_law_1352 : decode cL_law 1352 = .ok (.iconst 2, 1) := tb_d tk_L_law_24 38 (1352, .iconst 2, 1) rfl
theorem dL_law_1353 : decode cL_law 1353 = .ok (.iadd, 1) := tb_d tk_L_law_24 39 (1353, .iadd, 1) rfl
def tb_L_law_25 : List (Nat × Instr × Nat) := [(1354, .iaload, 1), (1355, .invokevirtual 162, 3), (1358, .pop, 1), (1359, .goto 62, 3), (1362, .aload_n 1, 1), (1363, .aload_n 0, 1), (1364, .iload_n 3, 1), (1365, .iconst 1, 1), (1366, .iadd, 1), (1367, .iaload, 1), (1368, .invokevirtual 163, 3), (1371, .pop, 1), (1372, .aload_n 2, 1), (1373, .aload_n 0, 1), (1374, .iload_n 3, 1), (1375, .iconst 1, 1), (1376, .iadd, 1), (1377, .iaload, 1), (1378, .invokevirtual 166, 3), (1381, .pop, 1), (1382, .goto 39, 3), (1385, .aload_n 1, 1), (1386, .aload_n 0, 1), (1387, .iload_n 3, 1), (1388, .iconst 1, 1), (1389, .iadd, 1), (1390, .iaload, 1), (1391, .invokevirtual 167, 3), (1394, .pop, 1), (1395, .aload_n 2, 1), (1396, .aload_n 0, 1), (1397, .iload_n 3, 1), (1398, .iconst 1, 1), (1399, .iadd, 1), (1400, .iaload, 1), (1401, .invokevirtual 170, 3), (1404, .pop, 1), (1405, .goto 16, 3), (1408, .aload_n 1, 1), (1409, .invokevirtual 171, 3)]
set_option maxRecDepth 100000 in
theorem tk_L_law_25 : (tb_L_law_25.all fun q => decide (decode cL_law q.1 = .ok q.2)) = true := by decide +kernel
theorem dL_law_1354 : decode cL_law 1354 = .ok (.iaload, 1) := tb_d tk_L_law_25 0 (1354, .iaload, 1) rfl
theorem dL_law_1355 : decode cL_law 1355 = .ok (.invokevirtual 162, 3) := tb_d tk_L_law_25 1 (1355, .invokevirtual 162, 3) rfl
theorem dL_law_1358 : decode cL_law 1358 = .ok (.pop, 1) := tb_d tk_L_law_25 2 (1358, .pop, 1) rfl
theorem dL_law_1359 : decode cL_law 1359 = .ok (.goto 62, 3) := tb_d tk_L_law_25 3 (1359, .goto 62, 3) rfl
theorem dL_law_1362 : decode cL_law 1362 = .ok (.aload_n 1, 1) := tb_d tk_L_law_25 4 (1362, .aload_n 1, 1) rfl
theorem dL_law_1363 : decode cL_law 1363 = .ok (.aload_n 0, 1) := tb_d tk_L_law_25 5 (1363, .aload_n 0, 1) rfl
theorem dL_law_1364 : decode cL_law 1364 = .ok (.iload_n 3, 1) := tb_d tk_L_law_25 6 (1364, .iload_n 3, 1) rfl
theorem dL_law_1365 : decode cL_law 1365 = .ok (.iconst 1, 1) := tb_d tk_L_law_25 7 (1365, .iconst 1, 1) rfl
theorem dL_law_1366 : decode cL_law 1366 = .ok (.iadd, 1) := tb_d tk_L_law_25 8 (1366, .iadd, 1) rfl
theorem dL_law_1367 : decode cL_law 1367 = .ok (.iaload, 1) := tb_d tk_L_law_25 9 (1367, .iaload, 1) rfl
theorem dL_law_1368 : decode cL_law 1368 = .ok (.invokevirtual 163, 3) := tb_d tk_L_law_25 10 (1368, .invokevirtual 163, 3) rfl
theorem dL_law_1371 : decode cL_law 1371 = .ok (.pop, 1) := tb_d tk_L_law_25 11 (1371, .pop, 1) rfl
theorem dL_law_1372 : decode cL_law 1372 = .ok (.aload_n 2, 1) := tb_d tk_L_law_25 12 (1372, .aload_n 2, 1) rfl
theorem dL_law_1373 : decode cL_law 1373 = .ok (.aload_n 0, 1) := tb_d tk_L_law_25 13 (1373, .aload_n 0, 1) rfl
theorem dL_law_1374 : decode cL_law 1374 = .ok (.iload_n 3, 1) := tb_d tk_L_law_25 14 (1374, .iload_n 3, 1) rfl
theorem dL_law_1375 : decode cL_law 1375 = .ok (.iconst 1, 1) := tb_d tk_L_law_25 15 (1375, .iconst 1, 1) rfl
theorem dL_law_1376 : decode cL_law 1376 = .ok (.iadd, 1) := tb_d tk_L_law_25 16 (1376, .iadd, 1) rfl
theorem dL_law_1377 : decode cL_law 1377 = .ok (.iaload, 1) := tb_d tk_L_law_25 17 (1377, .iaload, 1) rfl
theorem dL_law_1378 : decode cL_law 1378 = .ok (.invokevirtual 166, 3) := tb_d tk_L_law_25 18 (1378, .invokevirtual 166, 3) rfl
theorem dL_law_1381 : decode cL_law 1381 = .ok (.pop, 1) := tb_d tk_L_law_25 19 (1381, .pop, 1) rfl
theorem dL_law_1382 : decode cL_law 1382 = .ok (.goto 39, 3) := tb_d tk_L_law_25 20 (1382, .goto 39, 3) rfl
theorem dL_law_1385 : decode cL_law 1385 = .ok (.aload_n 1, 1) := tb_d tk_L_law_25 21 (1385, .aload_n 1, 1) rfl
theorem dL_law_1386 : decode cL_law 1386 = .ok (.aload_n 0, 1) := tb_d tk_L_law_25 22 (1386, .aload_n 0, 1) rfl
theorem dL_law_1387 : decode cL_law 1387 = .ok (.iload_n 3, 1) := tb_d tk_L_law_25 23 (1387, .iload_n 3, 1) rfl
theorem dL_law_1388 : decode cL_law 1388 = .ok (.iconst 1, 1) := tb_d tk_L_law_25 24 (1388, .iconst 1, 1) rfl
theorem dL_law_1389 : decode cL_law 1389 = .ok (.iadd, 1) := tb_d tk_L_law_25 25 (1389, .iadd, 1) rfl
theorem dL_law_1390 : decode cL_law 1390 = .ok (.iaload, 1) := tb_d tk_L_law_25 26 (1390, .iaload, 1) rfl
theorem dL_law_1391 : decode cL_law 1391 = .ok (.invokevirtual 167, 3) := tb_d tk_L_law_25 27 (1391, .invokevirtual 167, 3) rfl
theorem dL_law_1394 : decode cL_law 1394 = .ok (.pop, 1) := tb_d tk_L_law_25 28 (1394, .pop, 1) rfl
theorem dL_law_1395 : decode cL_law 1395 = .ok (.aload_n 2, 1) := tb_d tk_L_law_25 29 (1395, .aload_n 2, 1) rfl
theorem dL_law_1396 : decode cL_law 1396 = .ok (.aload_n 0, 1) := tb_d tk_L_law_25 30 (1396, .aload_n 0, 1) rfl
theorem dL_law_1397 : decode cL_law 1397 = .ok (.iload_n 3, 1) := tb_d tk_L_law_25 31 (1397, .iload_n 3, 1) rfl
theorem dL_law_1398 : decode cL_law 1398 = .ok (.iconst 1, 1) := tb_d tk_L_law_25 32 (1398, .iconst 1, 1) rfl
theorem dL_law_1399 : decode cL_law 1399 = .ok (.iadd, 1) := tb_d tk_L_law_25 33 (1399, .iadd, 1) rfl
theorem dL_law_1400 : decode cL_law 1400 = .ok (.iaload, 1) := tb_d tk_L_law_25 34 (1400, .iaload, 1) rfl
theorem dL_law_1401 : decode cL_law 1401 = .ok (.invokevirtual 170, 3) := tb_d tk_L_law_25 35 (1401, .invokevirtual 170, 3) rfl
theorem dL_law_1404 : decode cL_law 1404 = .ok (.pop, 1) := tb_d tk_L_law_25 36 (1404, .pop, 1) rfl
theorem dL_law_1405 : decode cL_law 1405 = .ok (.goto 16, 3) := tb_d tk_L_law_25 37 (1405, .goto 16, 3) rfl
theorem dL_law_1408 : decode cL_law 1408 = .ok (.aload_n 1, 1) := tb_d tk_L_law_25 38 (1408, .aload_n 1, 1) rfl
theorem dL_law_1409 : decode cL_law 1409 = .ok (.invokevirtual 171, 3) := tb_d tk_L_law_25 39 (1409, .invokevirtual 171, 3) rfl
def tb_L_law_26 : List (Nat × Instr × Nat) := [(1412, .aload_n 2, 1), (1413, .invokevirtual 174, 3), (1416, .if_icmp .eq 5, 3), (1419, .iconst 0, 1), (1420, .ireturn, 1), (1421, .iinc 3 6, 3), (1424, .goto (-1406), 3), (1427, .iconst 1, 1), (1428, .ireturn, 1)]
set_option maxRecDepth 100000 in
theorem tk_L_law_26 : (tb_L_law_26.all fun q => decide (decode cL_law q.1 = .ok q.2)) = true := by decide +kernel
theorem dL_law_1412 : decode cL_law 1412 = .ok (.aload_n 2, 1) := tb_d tk_L_law_26 0 (1412, .aload_n 2, 1) rfl
theorem dL_law_1413 : decode cL_law 1413 = .ok (.invokevirtual 174, 3) := tb_d tk_L_law_26 1 (1413, .invokevirtual 174, 3) rfl
theorem dL_law_1416 : decode cL_law 1416 = .ok (.if_icmp .eq 5, 3) := tb_d tk_L_law_26 2 (1416, .if_icmp .eq 5, 3) rfl
theorem dL_law_1419 : decode cL_law 1419 = .ok (.iconst 0, 1) := tb_d tk_L_law_26 3 (1419, .iconst 0, 1) rfl
theorem dL_law_1420 : decode cL_law 1420 = .ok (.ireturn, 1) := tb_d tk_L_law_26 4 (1420, .ireturn, 1) rfl
theorem dL_law_1421 : decode cL_law 1421 = .ok (.iinc 3 6, 3) := tb_d tk_L_law_26 5 (1421, .iinc 3 6, 3) rfl
theorem dL_law_1424 : decode cL_law 1424 = .ok (.goto (-1406), 3) := tb_d tk_L_law_26 6 (1424, .goto (-1406), 3) rfl
theorem dL_law_1427 : decode cL_law 1427 = .ok (.iconst 1, 1) := tb_d tk_L_law_26 7 (1427, .iconst 1, 1) rfl
theorem dL_law_1428 : decode cL_law 1428 = .ok (.ireturn, 1) := tb_d tk_L_law_26 8 (1428, .ireturn, 1) rfl
