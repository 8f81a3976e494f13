section CkChk65
noncomputable def gH1220 : sHt := ([], [], [(0, [[903]]), (21, [[592, 593], [594, 595], [596, 597]])], [], [], [])
theorem gK1220 : cChk 1220 gCT gRU gC1220 0 gH1220 3000 = true := by decide +kernel
noncomputable def gH1221 : sHt := ([], [], [(0, [[813]])], [], [], [])
theorem gK1221 : cChk 1221 gCT gRU gC1221 0 gH1221 3000 = true := by decide +kernel
noncomputable def gH1222 : sHt := ([], [], [(0, [[905]]), (21, [[592, 593], [594, 595], [596, 597]])], [], [], [])
theorem gK1222 : cChk 1222 gCT gRU gC1222 0 gH1222 3000 = true := by decide +kernel
noncomputable def gH1223 : sHt := ([], [], [(0, [[769]]), (21, [[592, 593], [594, 595], [596, 597]])], [], [], [])
theorem gK1223 : cChk 1223 gCT gRU gC1223 0 gH1223 3000 = true := by decide +kernel
noncomputable def gH1224 : sHt := ([], [], [(0, [[906]]), (21, [[592, 593], [594, 595], [596, 597]])], [], [], [])
theorem gK1224 : cChk 1224 gCT gRU gC1224 0 gH1224 3000 = true := by decide +kernel
noncomputable def gH1225 : sHt := ([], [], [(0, [[907]]), (21, [[592, 593], [594, 595], [596, 597]])], [], [], [])
theorem gK1225 : cChk 1225 gCT gRU gC1225 0 gH1225 3000 = true := by decide +kernel
noncomputable def gH1226 : sHt := ([], [], [(0, [[908]]), (21, [[592, 593], [594, 595], [596, 597]])], [], [], [])
theorem gK1226 : cChk 1226 gCT gRU gC1226 0 gH1226 3000 = true := by decide +kernel
noncomputable def gH1227 : sHt := ([], [], [(0, [[909]]), (21, [[592, 593], [594, 595], [596, 597]])], [], [], [])
theorem gK1227 : cChk 1227 gCT gRU gC1227 0 gH1227 3000 = true := by decide +kernel
noncomputable def gH1228 : sHt := ([], [], [(0, [[910]]), (21, [[592, 593], [594, 595], [596, 597]])], [], [], [])
theorem gK1228 : cChk 1228 gCT gRU gC1228 0 gH1228 3000 = true := by decide +kernel
noncomputable def gH1229 : sHt := ([], [], [(0, [[911]]), (21, [[592, 593], [594, 595], [596, 597]])], [], [], [])
theorem gK1229 : cChk 1229 gCT gRU gC1229 0 gH1229 3000 = true := by decide +kernel
noncomputable def gH1230 : sHt := ([], [], [(0, [[912]]), (21, [[592, 593], [594, 595], [596, 597]])], [], [], [])
theorem gK1230 : cChk 1230 gCT gRU gC1230 0 gH1230 3000 = true := by decide +kernel
noncomputable def gH1231 : sHt := ([], [], [(0, [[904]])], [], [(4, [1222]), (18, [1223]), (32, [1224]), (46, [1225]), (60, [1226]), (74, [1227]), (88, [1228]), (103, [1229]), (118, [1230])], [])
theorem gK1231 : cChk 1231 gCT gRU gC1231 0 gH1231 3000 = true := by decide +kernel
noncomputable def gH1232 : sHt := ([(38, ((11, [(0, .ofNat 0, .ofNat 940), (1, .ofNat 0, .ofNat 40), (2, .ofNat 0, .ofNat 40), (3, .ofNat 0, .ofNat 20), (4, .ofNat 0, .ofNat 940), (5, .ofNat 40, .ofNat 40), (6, .ofNat 1, .ofNat 9), (7, .ofNat 0, .ofNat 940), (8, .ofNat 0, .ofNat 0), (9, .ofNat 0, .ofNat 6560), (10, .ofNat 0, .ofNat 20)], [(.ofNat 0, [(.ofNat 1, 1), (.ofNat 1, 2), (.negSucc 1, 3)]), (.ofNat 0, [(.negSucc 0, 3), (.ofNat 1, 10)])], []), [(94, .ofNat 273, []), (1, .ofNat 0, []), (1, .ofNat 1, []), (1, .negSucc 0, []), (0, .ofNat 0, [])], ([((78, .ofNat 273, []), (.ofNat 51, []), 1, .ofNat 0, [(.ofNat 1, 6)]), ((78, .ofNat 273, []), (.ofNat 14, []), 1, .ofNat 40, []), ((78, .ofNat 273, []), (.ofNat 12, []), 1, .ofNat 0, [(.ofNat 1, 4)]), ((78, .ofNat 273, []), (.ofNat 11, []), 1, .ofNat 3, []), ((78, .ofNat 273, []), (.ofNat 15, []), 1, .ofNat 0, []), ((78, .ofNat 273, []), (.ofNat 52, []), 1, .ofNat 0, []), ((78, .ofNat 273, []), (.ofNat 49, []), 1, .ofNat 0, [(.ofNat 1, 3)]), ((78, .ofNat 273, []), (.ofNat 50, []), 1, .ofNat 0, [(.ofNat 1, 2)]), ((78, .ofNat 273, []), (.ofNat 48, []), 1, .ofNat 0, [(.ofNat 1, 1)]), ((78, .ofNat 273, []), (.ofNat 4, []), 1, .ofNat 0, [(.ofNat 1, 0)])], [(207, [(.ofNat 0, [(.ofNat 1, 7)]), (.ofNat 0, []), (.ofNat 0, [(.ofNat 1, 3)]), (.ofNat 0, [(.ofNat 1, 9)]), (.ofNat 3, []), (.ofNat 0, [(.ofNat 1, 4)]), (.ofNat 0, [(.ofNat 1, 0)]), (.ofNat 40, [])]), (132, []), (212, [(.ofNat 0, [(.ofNat 1, 2)]), (.ofNat 0, [(.ofNat 1, 9)])]), (199, [(.ofNat 0, [(.ofNat 1, 9)]), (.ofNat 0, [(.ofNat 1, 6)])]), (15, [(.ofNat 0, [(.ofNat 1, 2)]), (.ofNat 0, [(.ofNat 1, 10)])]), (14, [(.ofNat 0, [(.ofNat 1, 1)]), (.ofNat 0, [(.ofNat 1, 10)])])])), (.ofNat 0, []))], [(38, false)], [(0, [[901], [902]]), (34, [[913, 914, 918, 919, 920]]), (58, [[923, 924, 925, 926]]), (62, [[929]]), (72, [[930, 931]]), (104, [[965, 967], [966, 968]])], [], [(4, [1220]), (11, [1221]), (16, [1231]), (34, [720]), (58, [720]), (73, [1181])], [])
theorem gK1232 : cChk 1232 gCT gRU gC1232 4 gH1232 3000 = true := by decide +kernel
noncomputable def gH1233 : sHt := ([], [], [(0, [[903]]), (21, [[592, 593], [594, 595], [596, 597]])], [], [], [])
theorem gK1233 : cChk 1233 gCT gRU gC1233 0 gH1233 3000 = true := by decide +kernel
noncomputable def gH1234 : sHt := ([], [], [(0, [[813]])], [], [], [])
theorem gK1234 : cChk 1234 gCT gRU gC1234 0 gH1234 3000 = true := by decide +kernel
noncomputable def gH1235 : sHt := ([], [], [(0, [[905]]), (21, [[592, 593], [594, 595], [596, 597]])], [], [], [])
theorem gK1235 : cChk 1235 gCT gRU gC1235 0 gH1235 3000 = true := by decide +kernel
noncomputable def gH1236 : sHt := ([], [], [(0, [[769]]), (21, [[592, 593], [594, 595], [596, 597]])], [], [], [])
theorem gK1236 : cChk 1236 gCT gRU gC1236 0 gH1236 3000 = true := by decide +kernel
noncomputable def gH1237 : sHt := ([], [], [(0, [[906]]), (21, [[592, 593], [594, 595], [596, 597]])], [], [], [])
theorem gK1237 : cChk 1237 gCT gRU gC1237 0 gH1237 3000 = true := by decide +kernel
noncomputable def gH1238 : sHt := ([], [], [(0, [[907]]), (21, [[592, 593], [594, 595], [596, 597]])], [], [], [])
theorem gK1238 : cChk 1238 gCT gRU gC1238 0 gH1238 3000 = true := by decide +kernel
noncomputable def gH1239 : sHt := ([], [], [(0, [[908]]), (21, [[592, 593], [594, 595], [596, 597]])], [], [], [])
theorem gK1239 : cChk 1239 gCT gRU gC1239 0 gH1239 3000 = true := by decide +kernel
noncomputable def gH1240 : sHt := ([], [], [(0, [[909]]), (21, [[592, 593], [594, 595], [596, 597]])], [], [], [])
theorem gK1240 : cChk 1240 gCT gRU gC1240 0 gH1240 3000 = true := by decide +kernel
noncomputable def gH1241 : sHt := ([], [], [(0, [[910]]), (21, [[592, 593], [594, 595], [596, 597]])], [], [], [])
theorem gK1241 : cChk 1241 gCT gRU gC1241 0 gH1241 3000 = true := by decide +kernel
noncomputable def gH1242 : sHt := ([], [], [(0, [[911]]), (21, [[592, 593], [594, 595], [596, 597]])], [], [], [])
theorem gK1242 : cChk 1242 gCT gRU gC1242 0 gH1242 3000 = true := by decide +kernel
noncomputable def gH1243 : sHt := ([], [], [(0, [[912]]), (21, [[592, 593], [594, 595], [596, 597]])], [], [], [])
theorem gK1243 : cChk 1243 gCT gRU gC1243 0 gH1243 3000 = true := by decide +kernel
noncomputable def gH1244 : sHt := ([], [], [(0, [[904]])], [], [(4, [1235]), (18, [1236]), (32, [1237]), (46, [1238]), (60, [1239]), (74, [1240]), (88, [1241]), (103, [1242]), (118, [1243])], [])
theorem gK1244 : cChk 1244 gCT gRU gC1244 0 gH1244 3000 = true := by decide +kernel
noncomputable def gH1245 : sHt := ([], [(38, false)], [(0, [[901], [902]]), (34, [[913]])], [], [(4, [1233]), (11, [1234]), (16, [1244]), (34, [720])], [])
theorem gK1245 : cChk 1245 gCT gRU gC1245 4 gH1245 3000 = true := by decide +kernel
noncomputable def gH1246 : sHt := ([], [], [(0, [[903]]), (21, [[592, 593], [594, 595], [596, 597]])], [], [], [])
theorem gK1246 : cChk 1246 gCT gRU gC1246 0 gH1246 3000 = true := by decide +kernel
noncomputable def gH1247 : sHt := ([], [], [(0, [[813]])], [], [], [])
theorem gK1247 : cChk 1247 gCT gRU gC1247 0 gH1247 3000 = true := by decide +kernel
noncomputable def gH1248 : sHt := ([], [], [(0, [[905]]), (21, [[592, 593], [594, 595], [596, 597]])], [], [], [])
theorem gK1248 : cChk 1248 gCT gRU gC1248 0 gH1248 3000 = true := by decide +kernel
noncomputable def gH1249 : sHt := ([], [], [(0, [[769]]), (21, [[592, 593], [594, 595], [596, 597]])], [], [], [])
theorem gK1249 : cChk 1249 gCT gRU gC1249 0 gH1249 3000 = true := by decide +kernel
noncomputable def gH1250 : sHt := ([], [], [(0, [[906]]), (21, [[592, 593], [594, 595], [596, 597]])], [], [], [])
theorem gK1250 : cChk 1250 gCT gRU gC1250 0 gH1250 3000 = true := by decide +kernel
noncomputable def gH1251 : sHt := ([], [], [(0, [[907]]), (21, [[592, 593], [594, 595], [596, 597]])], [], [], [])
theorem gK1251 : cChk 1251 gCT gRU gC1251 0 gH1251 3000 = true := by decide +kernel
noncomputable def gH1252 : sHt := ([], [], [(0, [[908]]), (21, [[592, 593], [594, 595], [596, 597]])], [], [], [])
theorem gK1252 : cChk 1252 gCT gRU gC1252 0 gH1252 3000 = true := by decide +kernel
noncomputable def gH1253 : sHt := ([], [], [(0, [[909]]), (21, [[592, 593], [594, 595], [596, 597]])], [], [], [])
theorem gK1253 : cChk 1253 gCT gRU gC1253 0 gH1253 3000 = true := by decide +kernel
noncomputable def gH1254 : sHt := ([], [], [(0, [[910]]), (21, [[592, 593], [594, 595], [596, 597]])], [], [], [])
theorem gK1254 : cChk 1254 gCT gRU gC1254 0 gH1254 3000 = true := by decide +kernel
noncomputable def gH1255 : sHt := ([], [], [(0, [[911]]), (21, [[592, 593], [594, 595], [596, 597]])], [], [], [])
theorem gK1255 : cChk 1255 gCT gRU gC1255 0 gH1255 3000 = true := by decide +kernel
noncomputable def gH1256 : sHt := ([], [], [(0, [[912]]), (21, [[592, 593], [594, 595], [596, 597]])], [], [], [])
theorem gK1256 : cChk 1256 gCT gRU gC1256 0 gH1256 3000 = true := by decide +kernel
noncomputable def gH1257 : sHt := ([], [], [(0, [[904]])], [], [(4, [1248]), (18, [1249]), (32, [1250]), (46, [1251]), (60, [1252]), (74, [1253]), (88, [1254]), (103, [1255]), (118, [1256])], [])
theorem gK1257 : cChk 1257 gCT gRU gC1257 0 gH1257 3000 = true := by decide +kernel
noncomputable def gH1258 : sHt := ([], [(38, false)], [(0, [[901], [902]]), (34, [[913, 914, 918]])], [], [(4, [1246]), (11, [1247]), (16, [1257]), (34, [720])], [])
theorem gK1258 : cChk 1258 gCT gRU gC1258 4 gH1258 3000 = true := by decide +kernel
noncomputable def gH1259 : sHt := ([], [], [(40, [[940]])], [], [], [])
theorem gK1259 : cChk 1259 gCT gRU gC1259 0 gH1259 3000 = true := by decide +kernel
noncomputable def gH1260 : sHt := ([(0, ((10, [(0, .ofNat 0, .ofNat 39), (1, .ofNat 1, .ofNat 40), (2, .ofNat 2, .ofNat 9), (3, .ofNat 0, .ofNat 6560), (4, .ofNat 0, .ofNat 6560), (5, .ofNat 0, .ofNat 19), (6, .ofNat 1, .ofNat 40), (7, .ofNat 1, .ofNat 8), (8, .ofNat 0, .ofNat 39), (9, .ofNat 0, .ofNat 2186)], [(.negSucc 39, [(.ofNat 1, 0), (.ofNat 1, 1)]), (.ofNat 0, [(.negSucc 0, 0), (.negSucc 0, 1), (.ofNat 1, 6), (.ofNat 1, 8)]), (.negSucc 39, [(.ofNat 1, 6), (.ofNat 1, 8)]), (.ofNat 0, [(.negSucc 0, 1), (.ofNat 1, 8)])], []), [(94, .ofNat 273, [])], ([((78, .ofNat 273, []), (.ofNat 48, []), 1, .ofNat 0, [(.ofNat 1, 6)]), ((78, .ofNat 273, []), (.ofNat 51, []), 1, .ofNat 0, [(.ofNat 1, 7)]), ((78, .ofNat 273, []), (.ofNat 50, []), 1, .ofNat 0, [(.ofNat 1, 8)]), ((78, .ofNat 273, []), (.ofNat 47, []), 108, .ofNat 287, []), ((92, .ofNat 287, []), (.negSucc 0, [(.ofNat 1, 1)]), 1, .ofNat 20, [])], [(15, [(.ofNat 0, [(.ofNat 1, 8)]), (.ofNat 0, [(.ofNat 1, 5)])]), (200, [(.ofNat 0, [(.ofNat 1, 9)]), (.ofNat 0, [(.ofNat 1, 4)])]), (14, [(.ofNat 0, [(.ofNat 1, 6)]), (.ofNat 1, [(.ofNat 1, 5)])]), (212, [(.ofNat 0, [(.ofNat 1, 8)]), (.ofNat 0, [(.ofNat 1, 9)])]), (199, [(.ofNat 0, [(.ofNat 1, 9)]), (.ofNat 0, [(.ofNat 1, 7)])])])), (.ofNat 41, [(.negSucc 0, 6)]))], [(0, false)], [(0, [[971]]), (7, [[972]]), (23, [[977], [978]]), (54, [[973, 974, 975], [976]])], [], [(48, [1259])], [])
theorem gK1260 : cChk 1260 gCT gRU gC1260 0 gH1260 3000 = true := by decide +kernel
noncomputable def gH1261 : sHt := ([], [], [(0, [[979]]), (21, [[592, 593], [594, 595], [596, 597]])], [], [], [])
theorem gK1261 : cChk 1261 gCT gRU gC1261 0 gH1261 3000 = true := by decide +kernel
noncomputable def gH1262 : sHt := ([], [], [(0, [[980]]), (21, [[592, 593], [594, 595], [596, 597]])], [], [], [])
theorem gK1262 : cChk 1262 gCT gRU gC1262 0 gH1262 3000 = true := by decide +kernel
noncomputable def gH1263 : sHt := ([], [], [(40, [[940, 941]])], [], [], [])
theorem gK1263 : cChk 1263 gCT gRU gC1263 0 gH1263 3000 = true := by decide +kernel
noncomputable def gH1264 : sHt := ([(0, ((8, [(0, .ofNat 0, .ofNat 39), (1, .ofNat 1, .ofNat 40), (2, .ofNat 0, .ofNat 6560), (3, .ofNat 1, .ofNat 19), (4, .ofNat 1, .ofNat 40), (5, .ofNat 0, .ofNat 39), (6, .ofNat 21, .ofNat 22), (7, .ofNat 0, .ofNat 18)], [(.negSucc 39, [(.ofNat 1, 0), (.ofNat 1, 1)]), (.ofNat 0, [(.negSucc 0, 0), (.negSucc 0, 1), (.ofNat 1, 4), (.ofNat 1, 5)]), (.negSucc 39, [(.ofNat 1, 4), (.ofNat 1, 5)]), (.ofNat 0, [(.negSucc 0, 1), (.ofNat 1, 5)]), (.ofNat 0, [(.negSucc 0, 3), (.ofNat 1, 7)])], []), [(94, .ofNat 273, []), (1, .ofNat 22, [])], ([((78, .ofNat 273, []), (.ofNat 48, []), 1, .ofNat 0, [(.ofNat 1, 4)]), ((78, .ofNat 273, []), (.ofNat 50, []), 1, .ofNat 0, [(.ofNat 1, 5)]), ((78, .ofNat 273, []), (.ofNat 47, []), 108, .ofNat 287, []), ((92, .ofNat 287, []), (.negSucc 0, [(.ofNat 1, 1)]), 1, .ofNat 0, [(.ofNat 1, 6)])], [(15, [(.ofNat 0, [(.ofNat 1, 5)]), (.ofNat 0, [(.ofNat 1, 7)])]), (14, [(.ofNat 0, [(.ofNat 1, 4)]), (.ofNat 1, [(.ofNat 1, 7)])]), (212, [(.ofNat 0, [(.ofNat 1, 5)]), (.ofNat 0, [(.ofNat 1, 2)])])])), (.ofNat 41, [(.negSucc 0, 4)]))], [(0, false)], [(7, [[981]]), (45, [[985], [986]]), (73, [[982], [983], [984]])], [], [(67, [1263])], [])
theorem gK1264 : cChk 1264 gCT gRU gC1264 0 gH1264 3000 = true := by decide +kernel
noncomputable def gH1265 : sHt := ([], [], [(0, [[813]])], [], [], [])
theorem gK1265 : cChk 1265 gCT gRU gC1265 0 gH1265 3000 = true := by decide +kernel
noncomputable def gH1266 : sHt := ([], [], [(0, [[969], [970]]), (114, [[987, 988]])], [], [(1, [1260]), (8, [1261]), (18, [1262]), (95, [1264]), (101, [1265]), (116, [720])], [])
theorem gK1266 : cChk 1266 gCT gRU gC1266 0 gH1266 3000 = true := by decide +kernel
noncomputable def gH1267 : sHt := ([], [], [(0, [[979]]), (21, [[592, 593], [594, 595], [596, 597]])], [], [], [])
theorem gK1267 : cChk 1267 gCT gRU gC1267 0 gH1267 3000 = true := by decide +kernel
noncomputable def gH1268 : sHt := ([], [], [(0, [[980]]), (21, [[592, 593], [594, 595], [596, 597]])], [], [], [])
theorem gK1268 : cChk 1268 gCT gRU gC1268 0 gH1268 3000 = true := by decide +kernel
noncomputable def gH1269 : sHt := ([], [], [(0, [[813]])], [], [], [])
theorem gK1269 : cChk 1269 gCT gRU gC1269 0 gH1269 3000 = true := by decide +kernel
noncomputable def gH1270 : sHt := ([], [], [(0, [[969], [970]]), (114, [[987, 988, 990, 991, 992, 993, 994]]), (120, [[995], [996]])], [], [(1, [1260]), (8, [1267]), (18, [1268]), (95, [1264]), (101, [1269]), (116, [720]), (141, [1181])], [])
theorem gK1270 : cChk 1270 gCT gRU gC1270 0 gH1270 3000 = true := by decide +kernel
noncomputable def gH1271 : sHt := ([], [], [(0, [[979]]), (17, [[608], [609], [610]]), (21, [[592, 593], [594, 595], [596, 597]])], [], [], [])
theorem gK1271 : cChk 1271 gCT gRU gC1271 0 gH1271 3000 = true := by decide +kernel
noncomputable def gH1272 : sHt := ([], [], [(0, [[980]]), (17, [[608], [609], [610]]), (21, [[592, 593], [594, 595], [596, 597]])], [], [], [])
theorem gK1272 : cChk 1272 gCT gRU gC1272 0 gH1272 3000 = true := by decide +kernel
noncomputable def gH1273 : sHt := ([], [], [(0, [[813]])], [], [], [])
theorem gK1273 : cChk 1273 gCT gRU gC1273 0 gH1273 3000 = true := by decide +kernel
noncomputable def gH1274 : sHt := ([(0, ((7, [(0, .ofNat 0, .ofNat 39), (1, .ofNat 1, .ofNat 40), (2, .ofNat 0, .ofNat 6560), (3, .ofNat 1, .ofNat 19), (4, .ofNat 1, .ofNat 40), (5, .ofNat 0, .ofNat 39), (6, .ofNat 0, .ofNat 18)], [(.negSucc 39, [(.ofNat 1, 0), (.ofNat 1, 1)]), (.ofNat 0, [(.negSucc 0, 0), (.negSucc 0, 1), (.ofNat 1, 4), (.ofNat 1, 5)]), (.negSucc 39, [(.ofNat 1, 4), (.ofNat 1, 5)]), (.ofNat 0, [(.negSucc 0, 1), (.ofNat 1, 5)]), (.ofNat 0, [(.negSucc 0, 3), (.ofNat 1, 6)])], []), [(94, .ofNat 273, []), (1, .ofNat 21, [])], ([((78, .ofNat 273, []), (.ofNat 48, []), 1, .ofNat 0, [(.ofNat 1, 4)]), ((78, .ofNat 273, []), (.ofNat 50, []), 1, .ofNat 0, [(.ofNat 1, 5)]), ((78, .ofNat 273, []), (.ofNat 47, []), 108, .ofNat 287, []), ((92, .ofNat 287, []), (.negSucc 0, [(.ofNat 1, 1)]), 1, .ofNat 21, [])], [(15, [(.ofNat 0, [(.ofNat 1, 5)]), (.ofNat 0, [(.ofNat 1, 6)])]), (14, [(.ofNat 0, [(.ofNat 1, 4)]), (.ofNat 1, [(.ofNat 1, 6)])]), (212, [(.ofNat 0, [(.ofNat 1, 5)]), (.ofNat 0, [(.ofNat 1, 2)])])])), (.ofNat 41, [(.negSucc 0, 4)]))], [(0, false)], [(7, [[981]]), (45, [[985], [986]]), (73, [[982], [983], [984]])], [], [(67, [1263])], [])
theorem gK1274 : cChk 1274 gCT gRU gC1274 0 gH1274 3000 = true := by decide +kernel
end CkChk65
