section CkChk11
noncomputable def gH199 : sHt := ([], [], [(21, [[106, 110]]), (45, [[107, 108]]), (57, [[109]])], [], [(10, [195]), (23, [20, 27]), (47, [20])], [])
theorem gK199 : cChk 199 gCT gRU gC199 0 gH199 3000 = true := by decide +kernel
noncomputable def gH200 : sHt := ([(2, ((3, [(2, .ofNat 0, .ofNat 12)], [], []), [(18, .ofNat 0, [(.ofNat 1, 0)]), (5, .ofNat 0, [(.ofNat 1, 1)]), (0, .ofNat 0, []), (1, .ofNat 0, [(.ofNat 1, 2)])], ([], [])), (.ofNat 12, [(.negSucc 0, 2)]))], [(2, false)], [(0, [[152]]), (19, [[154]]), (21, [[153, 155]]), (27, [[156]])], [], [], [])
theorem gK200 : cChk 200 gCT gRU gC200 1 gH200 3000 = true := by decide +kernel
noncomputable def gH201 : sHt := ([], [], [], [], [], [])
theorem gK201 : cChk 201 gCT gRU gC201 0 gH201 3000 = true := by decide +kernel
noncomputable def gH202 : sHt := ([], [], [(23, [[149, 150, 151]]), (43, [[157]]), (54, [[158, 159]])], [], [(10, [195]), (17, [51, 52, 54, 55, 201]), (25, [20, 27]), (36, [200]), (56, [20])], [])
theorem gK202 : cChk 202 gCT gRU gC202 1 gH202 3000 = true := by decide +kernel
noncomputable def gH203 : sHt := ([], [], [(182, [[236], [237], [238], [239]])], [], [(1, [196]), (19, [20]), (36, [20]), (72, [198]), (87, [32, 199]), (112, [199]), (138, [202]), (158, [199, 32]), (178, [32, 199])], [])
theorem gK203 : cChk 203 gCT gRU gC203 1 gH203 3000 = true := by decide +kernel
noncomputable def gH204 : sHt := ([], [], [(0, [[90]])], [], [], [])
theorem gK204 : cChk 204 gCT gRU gC204 0 gH204 3000 = true := by decide +kernel
noncomputable def gH205 : sHt := ([], [], [(0, [[89]]), (8, [[91, 92, 93, 94, 95]]), (20, [[122]])], [], [(2, [204]), (10, [20]), (21, [195])], [])
theorem gK205 : cChk 205 gCT gRU gC205 0 gH205 3000 = true := by decide +kernel
noncomputable def gH206 : sHt := ([(11, ((8, [(1, .ofNat 0, .ofNat 40), (2, .ofNat 0, .ofNat 940), (3, .ofNat 0, .ofNat 940), (4, .ofNat 0, .ofNat 3), (5, .negSucc 0, .ofNat 99), (6, .ofNat 0, .ofNat 940), (7, .ofNat 0, .ofNat 940)], [], []), [(60, .ofNat 177, []), (56, .ofNat 173, []), (18, .ofNat 0, [(.ofNat 1, 0)]), (1, .ofNat 0, [(.ofNat 1, 1)])], ([((40, .ofNat 173, []), (.ofNat 4, []), 1, .ofNat 0, [(.ofNat 1, 2)]), ((40, .ofNat 173, []), (.ofNat 9, []), 1, .ofNat 0, []), ((40, .ofNat 173, []), (.ofNat 5, []), 1, .ofNat 0, [(.ofNat 1, 3)]), ((40, .ofNat 173, []), (.ofNat 6, []), 1, .ofNat 0, [(.ofNat 1, 4)]), ((40, .ofNat 173, []), (.ofNat 7, []), 1, .ofNat 0, [(.ofNat 1, 5)]), ((40, .ofNat 173, []), (.ofNat 3, []), 1, .ofNat 0, [(.ofNat 1, 6)]), ((40, .ofNat 173, []), (.ofNat 2, []), 1, .ofNat 0, [(.ofNat 1, 7)]), ((44, .ofNat 177, []), (.ofNat 5, []), 1, .ofNat 0, [(.ofNat 1, 1)]), ((40, .ofNat 173, []), (.ofNat 1, []), 17, .ofNat 1, [])], [(5, [(.ofNat 0, [(.ofNat 1, 1)])])])), (.ofNat 41, [(.negSucc 0, 1)])), (11, ((11, [(1, .ofNat 0, .ofNat 41), (2, .ofNat 0, .ofNat 940), (3, .ofNat 0, .ofNat 3), (4, .negSucc 0, .ofNat 99), (5, .ofNat 0, .ofNat 940), (6, .ofNat 1, .ofNat 4), (7, .ofNat 0, .ofNat 940), (8, .ofNat 0, .ofNat 940), (9, .ofNat 0, .ofNat 40), (10, .ofNat 0, .ofNat 40)], [], []), [(60, .ofNat 177, []), (56, .ofNat 173, []), (18, .ofNat 0, [(.ofNat 1, 0)]), (1, .ofNat 0, [(.ofNat 1, 1)])], ([((40, .ofNat 173, []), (.ofNat 4, []), 1, .ofNat 0, [(.ofNat 1, 2)]), ((40, .ofNat 173, []), (.ofNat 6, []), 1, .ofNat 0, [(.ofNat 1, 3)]), ((40, .ofNat 173, []), (.ofNat 7, []), 1, .ofNat 0, [(.ofNat 1, 4)]), ((40, .ofNat 173, []), (.ofNat 5, []), 1, .ofNat 0, [(.ofNat 1, 5)]), ((40, .ofNat 173, []), (.ofNat 10, []), 1, .ofNat 0, [(.ofNat 1, 5)]), ((40, .ofNat 173, []), (.ofNat 9, []), 1, .ofNat 0, [(.ofNat 1, 6)]), ((40, .ofNat 173, []), (.ofNat 3, []), 1, .ofNat 0, [(.ofNat 1, 7)]), ((40, .ofNat 173, []), (.ofNat 2, []), 1, .ofNat 0, [(.ofNat 1, 8)]), ((44, .ofNat 177, []), (.ofNat 5, []), 1, .ofNat 0, [(.ofNat 1, 9)]), ((40, .ofNat 173, []), (.ofNat 1, []), 17, .ofNat 1, [])], [(5, [(.ofNat 0, [(.ofNat 1, 10)])])])), (.ofNat 0, []))], [(11, false)], [(5, [[235]])], [], [(6, [195]), (34, [203]), (55, [195]), (61, [205, 28])], [])
theorem gK206 : cChk 206 gCT gRU gC206 1 gH206 3000 = true := by decide +kernel
noncomputable def gH207 : sHt := ([], [], [], [], [], [])
theorem gK207 : cChk 207 gCT gRU gC207 0 gH207 3000 = true := by decide +kernel
noncomputable def gH208 : sHt := ([(8, ((5, [(2, .ofNat 0, .ofNat 40), (3, .ofNat 0, .ofNat 40), (4, .negSucc 2147483647, .ofNat 2147483647)], [], []), [(60, .ofNat 177, []), (74, .ofNat 191, []), (18, .ofNat 0, [(.ofNat 1, 0)]), (31, .ofNat 0, [(.ofNat 1, 1)]), (1, .ofNat 0, [(.ofNat 1, 3)])], ([((44, .ofNat 177, []), (.ofNat 1, []), 1, .ofNat 0, [(.ofNat 1, 4)]), ((40, .ofNat 173, []), (.ofNat 9, []), 1, .ofNat 0, []), ((44, .ofNat 177, []), (.ofNat 5, []), 1, .ofNat 0, [(.ofNat 1, 2)])], [(5, [(.ofNat 0, [(.ofNat 1, 2)])])])), (.ofNat 40, [(.negSucc 0, 3)]))], [(8, false)], [(60, [[244]]), (87, [[243]]), (168, [[242]]), (199, [[240], [241]])], [], [(78, [132]), (113, [139]), (116, [207]), (156, [141]), (159, [207]), (187, [144]), (190, [207]), (218, [146]), (221, [207])], [])
theorem gK208 : cChk 208 gCT gRU gC208 1 gH208 3000 = true := by decide +kernel
noncomputable def gH209 : sHt := ([], [], [(0, [[234]])], [], [(17, [193]), (32, [206]), (76, [114]), (95, [208]), (107, [115]), (126, [208]), (134, [133])], [])
theorem gK209 : cChk 209 gCT gRU gC209 1 gH209 3000 = true := by decide +kernel
noncomputable def gH210 : sHt := ([], [], [], [], [], [])
theorem gK210 : cChk 210 gCT gRU gC210 0 gH210 3000 = true := by decide +kernel
noncomputable def gH211 : sHt := ([], [], [], [], [], [])
theorem gK211 : cChk 211 gCT gRU gC211 0 gH211 3000 = true := by decide +kernel
noncomputable def gH212 : sHt := ([], [], [], [], [(13, [211])], [])
theorem gK212 : cChk 212 gCT gRU gC212 0 gH212 3000 = true := by decide +kernel
end CkChk11
