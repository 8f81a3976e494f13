section CkChk63
noncomputable def gH1165 : sHt := ([], [], [(0, [[787]]), (21, [[535, 536], [537, 538]])], [], [], [])
theorem gK1165 : cChk 1165 gCT gRU gC1165 0 gH1165 3000 = true := by decide +kernel
noncomputable def gH1166 : sHt := ([], [], [(0, [[731]])], [], [], [])
theorem gK1166 : cChk 1166 gCT gRU gC1166 0 gH1166 3000 = true := by decide +kernel
noncomputable def gH1167 : sHt := ([], [], [(0, [[789]]), (21, [[535, 536], [537, 538]])], [], [], [])
theorem gK1167 : cChk 1167 gCT gRU gC1167 0 gH1167 3000 = true := by decide +kernel
noncomputable def gH1168 : sHt := ([], [], [(0, [[687]]), (21, [[535, 536], [537, 538]])], [], [], [])
theorem gK1168 : cChk 1168 gCT gRU gC1168 0 gH1168 3000 = true := by decide +kernel
noncomputable def gH1169 : sHt := ([], [], [(0, [[790]]), (21, [[535, 536], [537, 538]])], [], [], [])
theorem gK1169 : cChk 1169 gCT gRU gC1169 0 gH1169 3000 = true := by decide +kernel
noncomputable def gH1170 : sHt := ([], [], [(0, [[791]]), (21, [[535, 536], [537, 538]])], [], [], [])
theorem gK1170 : cChk 1170 gCT gRU gC1170 0 gH1170 3000 = true := by decide +kernel
noncomputable def gH1171 : sHt := ([], [], [(0, [[792]]), (21, [[535, 536], [537, 538]])], [], [], [])
theorem gK1171 : cChk 1171 gCT gRU gC1171 0 gH1171 3000 = true := by decide +kernel
noncomputable def gH1172 : sHt := ([], [], [(0, [[793]]), (21, [[535, 536], [537, 538]])], [], [], [])
theorem gK1172 : cChk 1172 gCT gRU gC1172 0 gH1172 3000 = true := by decide +kernel
noncomputable def gH1173 : sHt := ([], [], [(0, [[794]]), (21, [[535, 536], [537, 538]])], [], [], [])
theorem gK1173 : cChk 1173 gCT gRU gC1173 0 gH1173 3000 = true := by decide +kernel
noncomputable def gH1174 : sHt := ([], [], [(0, [[795]]), (21, [[535, 536], [537, 538]])], [], [], [])
theorem gK1174 : cChk 1174 gCT gRU gC1174 0 gH1174 3000 = true := by decide +kernel
noncomputable def gH1175 : sHt := ([], [], [(0, [[796]]), (21, [[535, 536], [537, 538]])], [], [], [])
theorem gK1175 : cChk 1175 gCT gRU gC1175 0 gH1175 3000 = true := by decide +kernel
noncomputable def gH1176 : sHt := ([], [], [(0, [[788]])], [], [(4, [1167]), (18, [1168]), (32, [1169]), (46, [1170]), (60, [1171]), (74, [1172]), (88, [1173]), (103, [1174]), (118, [1175])], [])
theorem gK1176 : cChk 1176 gCT gRU gC1176 0 gH1176 3000 = true := by decide +kernel
noncomputable def gH1177 : sHt := ([], [], [(0, [[785], [786]]), (34, [[797, 798, 846, 847, 848]]), (58, [[802, 803, 804, 805]]), (62, [[808]]), (72, [[809, 810]]), (104, [[844, 851], [845, 852]])], [], [(4, [1165]), (11, [1166]), (16, [1176]), (34, [719]), (58, [719]), (73, [1126])], [])
theorem gK1177 : cChk 1177 gCT gRU gC1177 4 gH1177 3000 = true := by decide +kernel
noncomputable def gH1178 : sHt := ([], [], [(0, [[787]]), (21, [[535, 536], [537, 538]])], [], [], [])
theorem gK1178 : cChk 1178 gCT gRU gC1178 0 gH1178 3000 = true := by decide +kernel
noncomputable def gH1179 : sHt := ([], [], [(0, [[731]])], [], [], [])
theorem gK1179 : cChk 1179 gCT gRU gC1179 0 gH1179 3000 = true := by decide +kernel
noncomputable def gH1180 : sHt := ([], [], [(0, [[789]]), (21, [[535, 536], [537, 538]])], [], [], [])
theorem gK1180 : cChk 1180 gCT gRU gC1180 0 gH1180 3000 = true := by decide +kernel
noncomputable def gH1181 : sHt := ([], [], [(0, [[687]]), (21, [[535, 536], [537, 538]])], [], [], [])
theorem gK1181 : cChk 1181 gCT gRU gC1181 0 gH1181 3000 = true := by decide +kernel
noncomputable def gH1182 : sHt := ([], [], [(0, [[790]]), (21, [[535, 536], [537, 538]])], [], [], [])
theorem gK1182 : cChk 1182 gCT gRU gC1182 0 gH1182 3000 = true := by decide +kernel
noncomputable def gH1183 : sHt := ([], [], [(0, [[791]]), (21, [[535, 536], [537, 538]])], [], [], [])
theorem gK1183 : cChk 1183 gCT gRU gC1183 0 gH1183 3000 = true := by decide +kernel
noncomputable def gH1184 : sHt := ([], [], [(0, [[792]]), (21, [[535, 536], [537, 538]])], [], [], [])
theorem gK1184 : cChk 1184 gCT gRU gC1184 0 gH1184 3000 = true := by decide +kernel
noncomputable def gH1185 : sHt := ([], [], [(0, [[793]]), (21, [[535, 536], [537, 538]])], [], [], [])
theorem gK1185 : cChk 1185 gCT gRU gC1185 0 gH1185 3000 = true := by decide +kernel
noncomputable def gH1186 : sHt := ([], [], [(0, [[794]]), (21, [[535, 536], [537, 538]])], [], [], [])
theorem gK1186 : cChk 1186 gCT gRU gC1186 0 gH1186 3000 = true := by decide +kernel
noncomputable def gH1187 : sHt := ([], [], [(0, [[795]]), (21, [[535, 536], [537, 538]])], [], [], [])
theorem gK1187 : cChk 1187 gCT gRU gC1187 0 gH1187 3000 = true := by decide +kernel
noncomputable def gH1188 : sHt := ([], [], [(0, [[796]]), (21, [[535, 536], [537, 538]])], [], [], [])
theorem gK1188 : cChk 1188 gCT gRU gC1188 0 gH1188 3000 = true := by decide +kernel
noncomputable def gH1189 : sHt := ([], [], [(0, [[788]])], [], [(4, [1180]), (18, [1181]), (32, [1182]), (46, [1183]), (60, [1184]), (74, [1185]), (88, [1186]), (103, [1187]), (118, [1188])], [])
theorem gK1189 : cChk 1189 gCT gRU gC1189 0 gH1189 3000 = true := by decide +kernel
noncomputable def gH1190 : sHt := ([], [], [(0, [[785], [786]]), (34, [[797]])], [], [(4, [1178]), (11, [1179]), (16, [1189]), (34, [719])], [])
theorem gK1190 : cChk 1190 gCT gRU gC1190 4 gH1190 3000 = true := by decide +kernel
noncomputable def gH1191 : sHt := ([], [], [(0, [[787]]), (21, [[535, 536], [537, 538]])], [], [], [])
theorem gK1191 : cChk 1191 gCT gRU gC1191 0 gH1191 3000 = true := by decide +kernel
noncomputable def gH1192 : sHt := ([], [], [(0, [[731]])], [], [], [])
theorem gK1192 : cChk 1192 gCT gRU gC1192 0 gH1192 3000 = true := by decide +kernel
noncomputable def gH1193 : sHt := ([], [], [(0, [[789]]), (21, [[535, 536], [537, 538]])], [], [], [])
theorem gK1193 : cChk 1193 gCT gRU gC1193 0 gH1193 3000 = true := by decide +kernel
noncomputable def gH1194 : sHt := ([], [], [(0, [[687]]), (21, [[535, 536], [537, 538]])], [], [], [])
theorem gK1194 : cChk 1194 gCT gRU gC1194 0 gH1194 3000 = true := by decide +kernel
noncomputable def gH1195 : sHt := ([], [], [(0, [[790]]), (21, [[535, 536], [537, 538]])], [], [], [])
theorem gK1195 : cChk 1195 gCT gRU gC1195 0 gH1195 3000 = true := by decide +kernel
noncomputable def gH1196 : sHt := ([], [], [(0, [[791]]), (21, [[535, 536], [537, 538]])], [], [], [])
theorem gK1196 : cChk 1196 gCT gRU gC1196 0 gH1196 3000 = true := by decide +kernel
noncomputable def gH1197 : sHt := ([], [], [(0, [[792]]), (21, [[535, 536], [537, 538]])], [], [], [])
theorem gK1197 : cChk 1197 gCT gRU gC1197 0 gH1197 3000 = true := by decide +kernel
noncomputable def gH1198 : sHt := ([], [], [(0, [[793]]), (21, [[535, 536], [537, 538]])], [], [], [])
theorem gK1198 : cChk 1198 gCT gRU gC1198 0 gH1198 3000 = true := by decide +kernel
noncomputable def gH1199 : sHt := ([], [], [(0, [[794]]), (21, [[535, 536], [537, 538]])], [], [], [])
theorem gK1199 : cChk 1199 gCT gRU gC1199 0 gH1199 3000 = true := by decide +kernel
noncomputable def gH1200 : sHt := ([], [], [(0, [[795]]), (21, [[535, 536], [537, 538]])], [], [], [])
theorem gK1200 : cChk 1200 gCT gRU gC1200 0 gH1200 3000 = true := by decide +kernel
noncomputable def gH1201 : sHt := ([], [], [(0, [[796]]), (21, [[535, 536], [537, 538]])], [], [], [])
theorem gK1201 : cChk 1201 gCT gRU gC1201 0 gH1201 3000 = true := by decide +kernel
noncomputable def gH1202 : sHt := ([], [], [(0, [[788]])], [], [(4, [1193]), (18, [1194]), (32, [1195]), (46, [1196]), (60, [1197]), (74, [1198]), (88, [1199]), (103, [1200]), (118, [1201])], [])
theorem gK1202 : cChk 1202 gCT gRU gC1202 0 gH1202 3000 = true := by decide +kernel
noncomputable def gH1203 : sHt := ([], [], [(0, [[785], [786]]), (34, [[797, 798, 846]])], [], [(4, [1191]), (11, [1192]), (16, [1202]), (34, [719])], [])
theorem gK1203 : cChk 1203 gCT gRU gC1203 4 gH1203 3000 = true := by decide +kernel
noncomputable def gH1204 : sHt := ([], [], [(40, [[819]])], [], [], [])
theorem gK1204 : cChk 1204 gCT gRU gC1204 0 gH1204 3000 = true := by decide +kernel
noncomputable def gH1205 : sHt := ([(0, ((10, [(0, .ofNat 0, .ofNat 39), (1, .ofNat 1, .ofNat 40), (2, .ofNat 2, .ofNat 9), (3, .ofNat 0, .ofNat 6560), (4, .ofNat 0, .ofNat 6560), (5, .ofNat 0, .ofNat 19), (6, .ofNat 1, .ofNat 40), (7, .ofNat 1, .ofNat 8), (8, .ofNat 0, .ofNat 39), (9, .ofNat 0, .ofNat 2186)], [(.negSucc 39, [(.ofNat 1, 0), (.ofNat 1, 1)]), (.ofNat 0, [(.negSucc 0, 0), (.negSucc 0, 1), (.ofNat 1, 6), (.ofNat 1, 8)]), (.negSucc 39, [(.ofNat 1, 6), (.ofNat 1, 8)]), (.ofNat 0, [(.negSucc 0, 1), (.ofNat 1, 8)])], []), [(94, .ofNat 273, [])], ([((78, .ofNat 273, []), (.ofNat 48, []), 1, .ofNat 0, [(.ofNat 1, 6)]), ((78, .ofNat 273, []), (.ofNat 51, []), 1, .ofNat 0, [(.ofNat 1, 7)]), ((78, .ofNat 273, []), (.ofNat 50, []), 1, .ofNat 0, [(.ofNat 1, 8)]), ((78, .ofNat 273, []), (.ofNat 47, []), 108, .ofNat 287, []), ((92, .ofNat 287, []), (.negSucc 0, [(.ofNat 1, 1)]), 1, .ofNat 20, [])], [(15, [(.ofNat 0, [(.ofNat 1, 8)]), (.ofNat 0, [(.ofNat 1, 5)])]), (200, [(.ofNat 0, [(.ofNat 1, 9)]), (.ofNat 0, [(.ofNat 1, 4)])]), (14, [(.ofNat 0, [(.ofNat 1, 6)]), (.ofNat 1, [(.ofNat 1, 5)])]), (212, [(.ofNat 0, [(.ofNat 1, 8)]), (.ofNat 0, [(.ofNat 1, 9)])]), (199, [(.ofNat 0, [(.ofNat 1, 9)]), (.ofNat 0, [(.ofNat 1, 7)])])])), (.ofNat 41, [(.negSucc 0, 6)]))], [(0, false)], [(0, [[855]]), (7, [[856]]), (23, [[861], [862]]), (54, [[857, 858, 859], [860]])], [], [(48, [1204])], [])
theorem gK1205 : cChk 1205 gCT gRU gC1205 0 gH1205 3000 = true := by decide +kernel
noncomputable def gH1206 : sHt := ([], [], [(0, [[863]]), (21, [[535, 536], [537, 538]])], [], [], [])
theorem gK1206 : cChk 1206 gCT gRU gC1206 0 gH1206 3000 = true := by decide +kernel
noncomputable def gH1207 : sHt := ([], [], [(0, [[864]]), (21, [[535, 536], [537, 538]])], [], [], [])
theorem gK1207 : cChk 1207 gCT gRU gC1207 0 gH1207 3000 = true := by decide +kernel
noncomputable def gH1208 : sHt := ([], [], [(40, [[819, 820]])], [], [], [])
theorem gK1208 : cChk 1208 gCT gRU gC1208 0 gH1208 3000 = true := by decide +kernel
noncomputable def gH1209 : sHt := ([(0, ((8, [(0, .ofNat 0, .ofNat 39), (1, .ofNat 1, .ofNat 40), (2, .ofNat 0, .ofNat 6560), (3, .ofNat 1, .ofNat 19), (4, .ofNat 1, .ofNat 40), (5, .ofNat 0, .ofNat 39), (6, .ofNat 21, .ofNat 22), (7, .ofNat 0, .ofNat 18)], [(.negSucc 39, [(.ofNat 1, 0), (.ofNat 1, 1)]), (.ofNat 0, [(.negSucc 0, 0), (.negSucc 0, 1), (.ofNat 1, 4), (.ofNat 1, 5)]), (.negSucc 39, [(.ofNat 1, 4), (.ofNat 1, 5)]), (.ofNat 0, [(.negSucc 0, 1), (.ofNat 1, 5)]), (.ofNat 0, [(.negSucc 0, 3), (.ofNat 1, 7)])], []), [(94, .ofNat 273, []), (1, .ofNat 22, [])], ([((78, .ofNat 273, []), (.ofNat 48, []), 1, .ofNat 0, [(.ofNat 1, 4)]), ((78, .ofNat 273, []), (.ofNat 50, []), 1, .ofNat 0, [(.ofNat 1, 5)]), ((78, .ofNat 273, []), (.ofNat 47, []), 108, .ofNat 287, []), ((92, .ofNat 287, []), (.negSucc 0, [(.ofNat 1, 1)]), 1, .ofNat 0, [(.ofNat 1, 6)])], [(15, [(.ofNat 0, [(.ofNat 1, 5)]), (.ofNat 0, [(.ofNat 1, 7)])]), (14, [(.ofNat 0, [(.ofNat 1, 4)]), (.ofNat 1, [(.ofNat 1, 7)])]), (212, [(.ofNat 0, [(.ofNat 1, 5)]), (.ofNat 0, [(.ofNat 1, 2)])])])), (.ofNat 41, [(.negSucc 0, 4)]))], [(0, false)], [(7, [[865]]), (45, [[869], [870]]), (73, [[866], [867], [868]])], [], [(67, [1208])], [])
theorem gK1209 : cChk 1209 gCT gRU gC1209 0 gH1209 3000 = true := by decide +kernel
noncomputable def gH1210 : sHt := ([], [], [(0, [[731]])], [], [], [])
theorem gK1210 : cChk 1210 gCT gRU gC1210 0 gH1210 3000 = true := by decide +kernel
noncomputable def gH1211 : sHt := ([], [], [(0, [[853], [854]]), (114, [[871, 872]])], [], [(1, [1205]), (8, [1206]), (18, [1207]), (95, [1209]), (101, [1210]), (116, [719])], [])
theorem gK1211 : cChk 1211 gCT gRU gC1211 0 gH1211 3000 = true := by decide +kernel
noncomputable def gH1212 : sHt := ([], [], [(0, [[863]]), (21, [[535, 536], [537, 538]])], [], [], [])
theorem gK1212 : cChk 1212 gCT gRU gC1212 0 gH1212 3000 = true := by decide +kernel
noncomputable def gH1213 : sHt := ([], [], [(0, [[864]]), (21, [[535, 536], [537, 538]])], [], [], [])
theorem gK1213 : cChk 1213 gCT gRU gC1213 0 gH1213 3000 = true := by decide +kernel
noncomputable def gH1214 : sHt := ([], [], [(0, [[731]])], [], [], [])
theorem gK1214 : cChk 1214 gCT gRU gC1214 0 gH1214 3000 = true := by decide +kernel
noncomputable def gH1215 : sHt := ([], [], [(0, [[853], [854]]), (114, [[871, 872, 874, 875, 876, 877, 878]]), (120, [[879], [880]])], [], [(1, [1205]), (8, [1212]), (18, [1213]), (95, [1209]), (101, [1214]), (116, [719]), (141, [1126])], [])
theorem gK1215 : cChk 1215 gCT gRU gC1215 0 gH1215 3000 = true := by decide +kernel
noncomputable def gH1216 : sHt := ([], [], [(0, [[863]]), (17, [[549], [550]]), (21, [[535, 536], [537, 538]])], [], [], [])
theorem gK1216 : cChk 1216 gCT gRU gC1216 0 gH1216 3000 = true := by decide +kernel
noncomputable def gH1217 : sHt := ([], [], [(0, [[864]]), (17, [[549], [550]]), (21, [[535, 536], [537, 538]])], [], [], [])
theorem gK1217 : cChk 1217 gCT gRU gC1217 0 gH1217 3000 = true := by decide +kernel
noncomputable def gH1218 : sHt := ([], [], [(0, [[731]])], [], [], [])
theorem gK1218 : cChk 1218 gCT gRU gC1218 0 gH1218 3000 = true := by decide +kernel
noncomputable def gH1219 : sHt := ([(0, ((7, [(0, .ofNat 0, .ofNat 39), (1, .ofNat 1, .ofNat 40), (2, .ofNat 0, .ofNat 6560), (3, .ofNat 1, .ofNat 19), (4, .ofNat 1, .ofNat 40), (5, .ofNat 0, .ofNat 39), (6, .ofNat 0, .ofNat 18)], [(.negSucc 39, [(.ofNat 1, 0), (.ofNat 1, 1)]), (.ofNat 0, [(.negSucc 0, 0), (.negSucc 0, 1), (.ofNat 1, 4), (.ofNat 1, 5)]), (.negSucc 39, [(.ofNat 1, 4), (.ofNat 1, 5)]), (.ofNat 0, [(.negSucc 0, 1), (.ofNat 1, 5)]), (.ofNat 0, [(.negSucc 0, 3), (.ofNat 1, 6)])], []), [(94, .ofNat 273, []), (1, .ofNat 21, [])], ([((78, .ofNat 273, []), (.ofNat 48, []), 1, .ofNat 0, [(.ofNat 1, 4)]), ((78, .ofNat 273, []), (.ofNat 50, []), 1, .ofNat 0, [(.ofNat 1, 5)]), ((78, .ofNat 273, []), (.ofNat 47, []), 108, .ofNat 287, []), ((92, .ofNat 287, []), (.negSucc 0, [(.ofNat 1, 1)]), 1, .ofNat 21, [])], [(15, [(.ofNat 0, [(.ofNat 1, 5)]), (.ofNat 0, [(.ofNat 1, 6)])]), (14, [(.ofNat 0, [(.ofNat 1, 4)]), (.ofNat 1, [(.ofNat 1, 6)])]), (212, [(.ofNat 0, [(.ofNat 1, 5)]), (.ofNat 0, [(.ofNat 1, 2)])])])), (.ofNat 41, [(.negSucc 0, 4)]))], [(0, false)], [(7, [[865]]), (45, [[869], [870]]), (73, [[866], [867], [868]])], [], [(67, [1208])], [])
theorem gK1219 : cChk 1219 gCT gRU gC1219 0 gH1219 3000 = true := by decide +kernel
end CkChk63
