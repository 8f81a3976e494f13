section CkChk7
noncomputable def gH192 : sHt := ([], [], [], [], [(31, [115]), (48, [191]), (60, [133])], [])
theorem gK192 : cChk 192 gCT gRU gC192 1 gH192 3000 = true := by decide +kernel
noncomputable def gH193 : sHt := ([(45, ((9, [(0, .ofNat 0, .ofNat 3), (1, .ofNat 0, .ofNat 2), (2, .ofNat 1, .ofNat 30), (3, .negSucc 2147483647, .ofNat 2147483647), (4, .negSucc 2147483647, .ofNat 2147483647), (5, .ofNat 0, .ofNat 30), (6, .ofNat 1, .ofNat 8), (7, .ofNat 1, .ofNat 3), (8, .ofNat 1, .ofNat 4)], [(.ofNat 1, [(.ofNat 1, 0), (.negSucc 0, 8)]), (.ofNat 1, [(.ofNat 1, 1), (.negSucc 0, 7)])], []), [(16, .ofNat 0, []), (1, .ofNat 0, [(.ofNat 1, 0)]), (1, .ofNat 0, [(.ofNat 1, 1)]), (1, .ofNat 0, [(.ofNat 1, 2)]), (1, .ofNat 0, [(.ofNat 1, 3)]), (1, .ofNat 0, [(.ofNat 1, 4)]), (1, .ofNat 0, [(.ofNat 1, 5)])], ([((2, .ofNat 2, []), (.ofNat 5, []), 1, .ofNat 0, [(.ofNat 1, 6)]), ((2, .ofNat 2, []), (.ofNat 3, []), 1, .ofNat 0, [(.ofNat 1, 7)]), ((2, .ofNat 2, []), (.ofNat 2, []), 1, .ofNat 0, [(.ofNat 1, 8)]), ((0, .ofNat 0, []), (.ofNat 7, []), 114, .ofNat 15, []), ((0, .ofNat 0, []), (.ofNat 6, []), 18, .ofNat 2, [])], [])), (.ofNat 30, [(.negSucc 0, 5)]))], [(45, false)], [], [], [(2, [102]), (10, [106]), (59, [114]), (80, [191])], [])
theorem gK193 : cChk 193 gCT gRU gC193 2 gH193 3000 = true := by decide +kernel
noncomputable def gH194 : sHt := ([], [], [], [], [], [])
theorem gK194 : cChk 194 gCT gRU gC194 0 gH194 3000 = true := by decide +kernel
noncomputable def gH195 : sHt := ([], [], [], [], [(13, [194])], [])
theorem gK195 : cChk 195 gCT gRU gC195 0 gH195 3000 = true := by decide +kernel
noncomputable def gH196 : sHt := ([(0, ((7, [(0, .ofNat 0, .ofNat 939), (1, .ofNat 1, .ofNat 940), (2, .ofNat 0, .ofNat 940), (3, .ofNat 0, .ofNat 7), (4, .ofNat 0, .ofNat 41), (5, .ofNat 1, .ofNat 940), (6, .ofNat 10, .ofNat 32)], [(.ofNat 1, [(.ofNat 1, 0), (.negSucc 0, 1)])], []), [(56, .ofNat 173, [])], ([((40, .ofNat 173, []), (.ofNat 4, []), 1, .ofNat 0, [(.ofNat 1, 5)]), ((1, .ofNat 1, []), (.ofNat 0, [(.ofNat 1, 0)]), 1, .ofNat 0, [(.ofNat 1, 6)]), ((40, .ofNat 173, []), (.ofNat 1, []), 17, .ofNat 1, []), ((40, .ofNat 173, []), (.ofNat 9, []), 1, .ofNat 0, []), ((40, .ofNat 173, []), (.ofNat 3, []), 1, .ofNat 0, [(.ofNat 1, 2)]), ((40, .ofNat 173, []), (.ofNat 2, []), 1, .ofNat 0, [(.ofNat 1, 1)])], [(51, []), (240, [(.ofNat 0, [(.ofNat 1, 0)]), (.ofNat 0, [(.ofNat 1, 3)]), (.ofNat 0, [(.ofNat 1, 4)])]), (40, [(.ofNat 0, [(.ofNat 1, 0)]), (.ofNat 0, [(.ofNat 1, 5)])])])), (.ofNat 940, [(.negSucc 0, 5)]))], [(0, false)], [(0, [[25, 26]]), (11, [[27]]), (39, [[83, 84]]), (52, [[28, 29, 30, 85]]), (92, [[31]]), (100, [[32], [33], [34]]), (119, [[39, 40]]), (154, [[82]]), (164, [[32], [33], [34]]), (169, [[35, 86], [36], [37], [38]])], [], [(102, [20]), (120, [21]), (131, [22]), (148, [23]), (166, [20])], [])
theorem gK196 : cChk 196 gCT gRU gC196 0 gH196 3000 = true := by decide +kernel
noncomputable def gH197 : sHt := ([], [], [(21, [[120, 132], [121, 122], [123, 124]]), (29, [[125]]), (45, [[126, 127], [128, 129]]), (57, [[130], [131]])], [], [(10, [196]), (23, [20, 27]), (47, [20, 27])], [])
theorem gK197 : cChk 197 gCT gRU gC197 0 gH197 3000 = true := by decide +kernel
noncomputable def gH198 : sHt := ([], [], [(21, [[120, 132], [121, 122], [123, 124]]), (29, [[125]]), (45, [[126, 127], [128, 129]]), (57, [[130], [131]])], [], [(10, [196]), (23, [20, 27]), (47, [20, 27])], [])
theorem gK198 : cChk 198 gCT gRU gC198 0 gH198 3000 = true := by decide +kernel
noncomputable def gH199 : sHt := ([], [], [], [], [], [])
theorem gK199 : cChk 199 gCT gRU gC199 0 gH199 3000 = true := by decide +kernel
noncomputable def gH200 : sHt := ([], [], [(21, [[120, 132], [121, 122], [123, 124]]), (29, [[125]]), (45, [[126, 127], [128, 129]]), (57, [[130], [131]])], [], [(10, [196]), (23, [20, 27]), (47, [20, 27])], [])
theorem gK200 : cChk 200 gCT gRU gC200 0 gH200 3000 = true := by decide +kernel
noncomputable def gH201 : sHt := ([(2, ((2, [(1, .ofNat 0, .ofNat 12)], [], []), [(18, .ofNat 2, []), (5, .ofNat 0, [(.ofNat 1, 0)]), (0, .ofNat 0, []), (1, .ofNat 0, [(.ofNat 1, 1)])], ([((0, .ofNat 0, []), (.ofNat 6, []), 18, .ofNat 2, [])], [(203, []), (198, [(.ofNat 0, [(.ofNat 1, 1)]), (.ofNat 0, [(.ofNat 1, 0)])])])), (.ofNat 12, [(.negSucc 0, 1)]))], [(2, false)], [(0, [[183], [184]]), (19, [[311], [312]]), (21, [[308, 309], [310, 313]]), (27, [[191], [192]])], [], [], [])
theorem gK201 : cChk 201 gCT gRU gC201 1 gH201 3000 = true := by decide +kernel
noncomputable def gH202 : sHt := ([(2, ((2, [(1, .ofNat 0, .ofNat 12)], [], []), [(18, .ofNat 2, []), (5, .ofNat 0, [(.ofNat 1, 0)]), (0, .ofNat 0, []), (1, .ofNat 0, [(.ofNat 1, 1)])], ([], [])), (.ofNat 12, [(.negSucc 0, 1)]))], [(2, false)], [(0, [[183], [184]]), (19, [[311], [312]]), (21, [[308, 309], [310, 313]]), (27, [[191], [192]])], [], [], [])
theorem gK202 : cChk 202 gCT gRU gC202 1 gH202 3000 = true := by decide +kernel
noncomputable def gH203 : sHt := ([], [], [(23, [[172, 179, 180], [173, 174, 175], [176, 177, 178]]), (31, [[181], [182]]), (43, [[193], [194], [195]]), (54, [[196, 205], [197, 198, 199, 200, 201, 202], [203, 204]])], [], [(10, [196]), (17, [51, 52, 54, 55, 56]), (25, [20, 27]), (36, [201, 202]), (56, [20, 27])], [])
theorem gK203 : cChk 203 gCT gRU gC203 1 gH203 3000 = true := by decide +kernel
noncomputable def gH204 : sHt := ([], [], [], [], [], [])
theorem gK204 : cChk 204 gCT gRU gC204 0 gH204 3000 = true := by decide +kernel
noncomputable def gH205 : sHt := ([], [], [(30, [[112, 117, 118, 119], [113, 114, 115, 116]])], [], [(10, [196]), (14, [33, 30, 29, 25, 34]), (32, [20, 27])], [])
theorem gK205 : cChk 205 gCT gRU gC205 1 gH205 3000 = true := by decide +kernel
noncomputable def gH206 : sHt := ([], [], [(21, [[120, 132], [121, 122], [123, 124]]), (29, [[125]]), (45, [[126, 127], [128, 129]]), (57, [[130], [131]])], [], [(10, [196]), (23, [20, 27]), (47, [20, 27])], [])
theorem gK206 : cChk 206 gCT gRU gC206 0 gH206 3000 = true := by decide +kernel
noncomputable def gH207 : sHt := ([], [], [], [], [], [])
theorem gK207 : cChk 207 gCT gRU gC207 0 gH207 3000 = true := by decide +kernel
noncomputable def gH208 : sHt := ([], [], [(0, [[285], [286], [287], [288]]), (19, [[289, 290, 291, 292]]), (36, [[293]]), (63, [[314]]), (84, [[315]]), (100, [[306]]), (125, [[307]]), (142, [[294, 295]]), (158, [[296]]), (162, [[297]]), (178, [[298]]), (182, [[299], [300], [301], [302], [303, 304, 305]])], [], [(1, [25, 29, 30, 33]), (19, [20]), (36, [20]), (72, [205]), (87, [206, 207]), (112, [200]), (138, [203]), (158, [197, 204]), (178, [198, 199, 204])], [])
theorem gK208 : cChk 208 gCT gRU gC208 1 gH208 3000 = true := by decide +kernel
end CkChk7
