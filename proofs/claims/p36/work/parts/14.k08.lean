section CkChk8
noncomputable def gH209 : sHt := ([], [], [], [], [], [])
theorem gK209 : cChk 209 gCT gRU gC209 0 gH209 3000 = true := by decide +kernel
noncomputable def gH210 : sHt := ([(8, ((4, [(1, .ofNat 0, .ofNat 40), (2, .ofNat 0, .ofNat 40), (3, .negSucc 2147483647, .ofNat 2147483647)], [], []), [(60, .ofNat 177, []), (74, .ofNat 191, []), (18, .ofNat 2, []), (31, .ofNat 0, [(.ofNat 1, 0)]), (1, .ofNat 0, [(.ofNat 1, 2)])], ([((44, .ofNat 177, []), (.ofNat 1, []), 1, .ofNat 0, [(.ofNat 1, 3)]), ((40, .ofNat 173, []), (.ofNat 9, []), 1, .ofNat 0, []), ((44, .ofNat 177, []), (.ofNat 5, []), 1, .ofNat 0, [(.ofNat 1, 1)])], [(5, [(.ofNat 0, [(.ofNat 1, 1)])])])), (.ofNat 40, [(.negSucc 0, 2)]))], [(8, false)], [(60, [[273]]), (87, [[272]]), (168, [[271]]), (199, [[269], [270]])], [], [(78, [132]), (113, [139]), (116, [209]), (156, [141]), (159, [209]), (187, [144]), (190, [209]), (218, [146]), (221, [209])], [])
theorem gK210 : cChk 210 gCT gRU gC210 1 gH210 3000 = true := by decide +kernel
noncomputable def gH211 : sHt := ([], [], [(0, [[257]])], [], [(17, [195]), (32, [208]), (76, [114]), (95, [210]), (107, [115]), (126, [210]), (134, [133])], [])
theorem gK211 : cChk 211 gCT gRU gC211 1 gH211 3000 = true := by decide +kernel
noncomputable def gH212 : sHt := ([], [], [], [], [], [])
theorem gK212 : cChk 212 gCT gRU gC212 0 gH212 3000 = true := by decide +kernel
noncomputable def gH213 : sHt := ([], [], [], [], [], [])
theorem gK213 : cChk 213 gCT gRU gC213 0 gH213 3000 = true := by decide +kernel
noncomputable def gH214 : sHt := ([], [], [], [], [(13, [213])], [])
theorem gK214 : cChk 214 gCT gRU gC214 0 gH214 3000 = true := by decide +kernel
noncomputable def gH215 : sHt := ([(0, ((8, [(0, .ofNat 0, .ofNat 939), (1, .ofNat 1, .ofNat 940), (2, .ofNat 0, .ofNat 940), (3, .ofNat 0, .ofNat 6), (4, .ofNat 0, .ofNat 20), (5, .ofNat 0, .ofNat 6560), (6, .ofNat 1, .ofNat 940), (7, .ofNat 10, .ofNat 32)], [(.ofNat 1, [(.ofNat 1, 0), (.negSucc 0, 1)])], []), [(56, .ofNat 173, [])], ([((40, .ofNat 173, []), (.ofNat 4, []), 1, .ofNat 0, [(.ofNat 1, 6)]), ((1, .ofNat 1, []), (.ofNat 0, [(.ofNat 1, 0)]), 1, .ofNat 0, [(.ofNat 1, 7)]), ((40, .ofNat 173, []), (.ofNat 1, []), 17, .ofNat 1, []), ((40, .ofNat 173, []), (.ofNat 9, []), 1, .ofNat 0, []), ((40, .ofNat 173, []), (.ofNat 3, []), 1, .ofNat 0, [(.ofNat 1, 2)]), ((40, .ofNat 173, []), (.ofNat 2, []), 1, .ofNat 0, [(.ofNat 1, 1)])], [(51, []), (191, [(.ofNat 0, [(.ofNat 1, 0)]), (.ofNat 0, [(.ofNat 1, 3)]), (.ofNat 0, [(.ofNat 1, 4)]), (.ofNat 0, [(.ofNat 1, 5)])]), (40, [(.ofNat 0, [(.ofNat 1, 0)]), (.ofNat 0, [(.ofNat 1, 6)])])])), (.ofNat 940, [(.negSucc 0, 6)]))], [(0, false)], [(0, [[25, 26]]), (11, [[27]]), (39, [[81, 82]]), (52, [[28, 29, 30, 83]]), (92, [[31]]), (100, [[32], [33]]), (119, [[37, 38]]), (154, [[80]]), (164, [[32], [33]]), (169, [[34, 84], [35], [36]])], [], [(102, [20]), (120, [21]), (131, [22]), (148, [23]), (166, [20])], [])
theorem gK215 : cChk 215 gCT gRU gC215 0 gH215 3000 = true := by decide +kernel
noncomputable def gH216 : sHt := ([], [], [(0, [[92]])], [], [], [])
theorem gK216 : cChk 216 gCT gRU gC216 0 gH216 3000 = true := by decide +kernel
noncomputable def gH217 : sHt := ([], [], [(0, [[92]])], [], [], [])
theorem gK217 : cChk 217 gCT gRU gC217 0 gH217 3000 = true := by decide +kernel
noncomputable def gH218 : sHt := ([], [], [(0, [[92]])], [], [], [])
theorem gK218 : cChk 218 gCT gRU gC218 0 gH218 3000 = true := by decide +kernel
noncomputable def gH219 : sHt := ([], [], [(0, [[92]])], [], [], [])
theorem gK219 : cChk 219 gCT gRU gC219 0 gH219 3000 = true := by decide +kernel
noncomputable def gH220 : sHt := ([], [], [(0, [[277], [278], [279, 286, 288, 290, 292, 294, 296, 298], [280], [281]]), (33, [[282, 283, 284, 304, 307, 308]]), (56, [[300, 301, 302, 303, 305, 306]])], [], [(1, [25, 29, 30, 33]), (9, [216, 217, 218, 219]), (35, [20]), (58, [20])], [])
theorem gK220 : cChk 220 gCT gRU gC220 2 gH220 3000 = true := by decide +kernel
noncomputable def gH221 : sHt := ([(13, ((10, [(0, .ofNat 0, .ofNat 40), (1, .ofNat 0, .ofNat 20), (2, .ofNat 0, .ofNat 3), (3, .ofNat 0, .ofNat 940), (4, .ofNat 0, .ofNat 940), (5, .negSucc 0, .ofNat 99), (6, .ofNat 0, .ofNat 940), (7, .ofNat 0, .ofNat 0), (8, .ofNat 0, .ofNat 6560), (9, .ofNat 1, .ofNat 4)], [], []), [(48, .ofNat 57, []), (56, .ofNat 173, []), (18, .ofNat 2, []), (1, .ofNat 9, []), (1, .ofNat 0, []), (1, .ofNat 0, []), (0, .ofNat 0, [])], ([((40, .ofNat 173, []), (.ofNat 10, []), 1, .ofNat 0, [(.ofNat 1, 3)]), ((40, .ofNat 173, []), (.ofNat 9, []), 1, .ofNat 0, [(.ofNat 1, 9)]), ((40, .ofNat 173, []), (.ofNat 7, []), 1, .ofNat 0, [(.ofNat 1, 5)]), ((40, .ofNat 173, []), (.ofNat 4, []), 1, .ofNat 0, [(.ofNat 1, 4)]), ((40, .ofNat 173, []), (.ofNat 5, []), 1, .ofNat 0, [(.ofNat 1, 3)]), ((40, .ofNat 173, []), (.ofNat 6, []), 1, .ofNat 0, [(.ofNat 1, 2)]), ((40, .ofNat 173, []), (.ofNat 1, []), 17, .ofNat 1, []), ((32, .ofNat 57, []), (.ofNat 1, []), 1, .ofNat 0, [(.ofNat 1, 1)]), ((32, .ofNat 57, []), (.ofNat 2, []), 1, .ofNat 0, [(.ofNat 1, 0)]), ((0, .ofNat 0, []), (.ofNat 6, []), 18, .ofNat 2, [])], [(193, [(.ofNat 0, [(.ofNat 1, 9)]), (.ofNat 0, [(.ofNat 1, 3)])])])), (.ofNat 0, []))], [(13, false)], [(0, [[276]]), (13, [[309]])], [], [(4, [220])], [])
theorem gK221 : cChk 221 gCT gRU gC221 3 gH221 3000 = true := by decide +kernel
noncomputable def gH222 : sHt := ([], [], [(0, [[92]])], [], [], [])
theorem gK222 : cChk 222 gCT gRU gC222 0 gH222 3000 = true := by decide +kernel
noncomputable def gH223 : sHt := ([], [], [(0, [[92]])], [], [], [])
theorem gK223 : cChk 223 gCT gRU gC223 0 gH223 3000 = true := by decide +kernel
noncomputable def gH224 : sHt := ([], [], [(0, [[92]])], [], [], [])
theorem gK224 : cChk 224 gCT gRU gC224 0 gH224 3000 = true := by decide +kernel
noncomputable def gH225 : sHt := ([], [], [(0, [[92]])], [], [], [])
theorem gK225 : cChk 225 gCT gRU gC225 0 gH225 3000 = true := by decide +kernel
end CkChk8
