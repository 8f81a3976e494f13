section CkChk8
noncomputable def gH165 : sHt := ([], [], [], [], [(31, [94]), (48, [164]), (60, [111])], [])
theorem gK165 : cChk 165 gCT gRU gC165 1 gH165 3000 = true := by decide +kernel
noncomputable def gH166 : sHt := ([(45, ((10, [(0, .ofNat 0, .ofNat 3), (1, .ofNat 0, .ofNat 2), (2, .ofNat 1, .ofNat 30), (5, .ofNat 0, .ofNat 30), (7, .ofNat 1, .ofNat 8), (8, .ofNat 1, .ofNat 3), (9, .ofNat 1, .ofNat 4)], [(.ofNat 1, [(.ofNat 1, 0), (.negSucc 0, 9)]), (.ofNat 1, [(.ofNat 1, 1), (.negSucc 0, 8)])], []), [(16, .ofNat 0, []), (1, .ofNat 0, [(.ofNat 1, 0)]), (1, .ofNat 0, [(.ofNat 1, 1)]), (1, .ofNat 0, [(.ofNat 1, 2)]), (1, .ofNat 0, [(.ofNat 1, 3)]), (1, .ofNat 0, [(.ofNat 1, 4)]), (1, .ofNat 0, [(.ofNat 1, 5)])], ([((0, .ofNat 0, []), (.ofNat 6, []), 18, .ofNat 0, [(.ofNat 1, 6)]), ((2, .ofNat 0, [(.ofNat 1, 6)]), (.ofNat 5, []), 1, .ofNat 0, [(.ofNat 1, 7)]), ((2, .ofNat 0, [(.ofNat 1, 6)]), (.ofNat 3, []), 1, .ofNat 0, [(.ofNat 1, 8)]), ((2, .ofNat 0, [(.ofNat 1, 6)]), (.ofNat 2, []), 1, .ofNat 0, [(.ofNat 1, 9)])], [])), (.ofNat 30, [(.negSucc 0, 5)]))], [(45, false)], [], [], [(2, [81]), (10, [85]), (59, [93]), (80, [164])], [])
theorem gK166 : cChk 166 gCT gRU gC166 2 gH166 3000 = true := by decide +kernel
noncomputable def gH167 : sHt := ([], [], [(182, [[9], [10], [11], [12]])], [], [(1, [21]), (19, [16]), (36, [16]), (72, [28]), (87, [29, 26]), (112, [29]), (138, [44]), (158, [29, 26]), (178, [29, 26])], [])
theorem gK167 : cChk 167 gCT gRU gC167 1 gH167 3000 = true := by decide +kernel
noncomputable def gH168 : sHt := ([(11, ((2, [(1, .ofNat 0, .ofNat 40)], [], []), [(60, .ofNat 177, []), (56, .ofNat 173, []), (18, .ofNat 0, [(.ofNat 1, 0)]), (1, .ofNat 0, [(.ofNat 1, 1)])], ([((40, .ofNat 173, []), (.ofNat 9, []), 1, .ofNat 0, []), ((44, .ofNat 177, []), (.ofNat 5, []), 1, .ofNat 0, [(.ofNat 1, 1)]), ((40, .ofNat 173, []), (.ofNat 1, []), 17, .ofNat 1, [])], [(5, [(.ofNat 0, [(.ofNat 1, 1)])])])), (.ofNat 41, [(.negSucc 0, 1)])), (11, ((5, [(1, .ofNat 0, .ofNat 41), (2, .ofNat 1, .ofNat 4), (3, .ofNat 0, .ofNat 40), (4, .ofNat 0, .ofNat 40)], [], []), [(60, .ofNat 177, []), (56, .ofNat 173, []), (18, .ofNat 0, [(.ofNat 1, 0)]), (1, .ofNat 0, [(.ofNat 1, 1)])], ([((40, .ofNat 173, []), (.ofNat 9, []), 1, .ofNat 0, [(.ofNat 1, 2)]), ((44, .ofNat 177, []), (.ofNat 5, []), 1, .ofNat 0, [(.ofNat 1, 3)]), ((40, .ofNat 173, []), (.ofNat 1, []), 17, .ofNat 1, [])], [(5, [(.ofNat 0, [(.ofNat 1, 4)])])])), (.ofNat 0, []))], [(11, false)], [(5, [[8]])], [], [(6, [20]), (34, [167]), (55, [20]), (61, [33, 24])], [])
theorem gK168 : cChk 168 gCT gRU gC168 1 gH168 3000 = true := by decide +kernel
noncomputable def gH169 : sHt := ([], [], [], [], [], [])
theorem gK169 : cChk 169 gCT gRU gC169 0 gH169 3000 = true := by decide +kernel
noncomputable def gH170 : sHt := ([(8, ((5, [(2, .ofNat 0, .ofNat 40), (3, .ofNat 0, .ofNat 40)], [], []), [(60, .ofNat 177, []), (74, .ofNat 191, []), (18, .ofNat 0, [(.ofNat 1, 0)]), (31, .ofNat 0, [(.ofNat 1, 1)]), (1, .ofNat 0, [(.ofNat 1, 3)])], ([((44, .ofNat 177, []), (.ofNat 1, []), 1, .ofNat 0, [(.ofNat 1, 4)]), ((40, .ofNat 173, []), (.ofNat 9, []), 1, .ofNat 0, []), ((44, .ofNat 177, []), (.ofNat 5, []), 1, .ofNat 0, [(.ofNat 1, 2)])], [(5, [(.ofNat 0, [(.ofNat 1, 2)])])])), (.ofNat 40, [(.negSucc 0, 3)]))], [(8, false)], [(60, [[17]]), (87, [[16]]), (168, [[15]]), (199, [[13], [14]])], [], [(78, [110]), (113, [115]), (116, [169]), (156, [117]), (159, [169]), (187, [119]), (190, [169]), (218, [121]), (221, [169])], [])
theorem gK170 : cChk 170 gCT gRU gC170 1 gH170 3000 = true := by decide +kernel
noncomputable def gH171 : sHt := ([], [], [(0, [[103]])], [], [(17, [4]), (32, [168]), (76, [93]), (95, [170]), (107, [94]), (126, [170]), (134, [111])], [])
theorem gK171 : cChk 171 gCT gRU gC171 1 gH171 3000 = true := by decide +kernel
noncomputable def gH172 : sHt := ([], [], [], [], [], [])
theorem gK172 : cChk 172 gCT gRU gC172 0 gH172 3000 = true := by decide +kernel
noncomputable def gH173 : sHt := ([], [], [], [], [(1, [21]), (9, [32]), (35, [16]), (58, [16])], [])
theorem gK173 : cChk 173 gCT gRU gC173 2 gH173 3000 = true := by decide +kernel
noncomputable def gH174 : sHt := ([], [], [(39, [[19, 20, 21]])], [], [], [])
theorem gK174 : cChk 174 gCT gRU gC174 0 gH174 3000 = true := by decide +kernel
noncomputable def gH175 : sHt := ([], [], [], [], [(1, [27]), (9, [22]), (35, [23]), (58, [23])], [])
theorem gK175 : cChk 175 gCT gRU gC175 2 gH175 3000 = true := by decide +kernel
noncomputable def gH176 : sHt := ([], [], [(39, [[19, 20, 21]])], [], [], [])
theorem gK176 : cChk 176 gCT gRU gC176 0 gH176 3000 = true := by decide +kernel
noncomputable def gH177 : sHt := ([], [], [(39, [[19, 20]])], [], [], [])
theorem gK177 : cChk 177 gCT gRU gC177 0 gH177 3000 = true := by decide +kernel
noncomputable def gH178 : sHt := ([], [], [(39, [[19, 20, 21]])], [], [], [])
theorem gK178 : cChk 178 gCT gRU gC178 0 gH178 3000 = true := by decide +kernel
noncomputable def gH179 : sHt := ([], [], [(39, [[19, 20, 21]])], [], [], [])
theorem gK179 : cChk 179 gCT gRU gC179 0 gH179 3000 = true := by decide +kernel
noncomputable def gH180 : sHt := ([], [], [(39, [[19]])], [], [], [])
theorem gK180 : cChk 180 gCT gRU gC180 0 gH180 3000 = true := by decide +kernel
noncomputable def gH181 : sHt := ([], [], [(39, [[19, 20, 21]])], [], [], [])
theorem gK181 : cChk 181 gCT gRU gC181 0 gH181 3000 = true := by decide +kernel
end CkChk8
