section CkChk2
noncomputable def gH36 : sHt := ([], [], [(21, [[106, 110]]), (45, [[107, 108]]), (57, [[109]])], [], [(10, [24]), (23, [20, 27]), (47, [20, 27])], [])
theorem gK36 : cChk 36 gCT gRU gC36 0 gH36 3000 = true := by decide +kernel
noncomputable def gH37 : sHt := ([(2, ((6, [(1, .negSucc 2147483647, .ofNat 2147483647), (2, .negSucc 2147483647, .ofNat 2147483647), (3, .ofNat 0, .ofNat 8), (4, .ofNat 0, .ofNat 2000), (5, .ofNat 0, .ofNat 8)], [], []), [(18, .ofNat 0, [(.ofNat 1, 0)]), (1, .ofNat 0, [(.ofNat 1, 1)]), (1, .ofNat 0, [(.ofNat 1, 2)]), (1, .ofNat 0, [(.ofNat 1, 5)])], ([((2, .ofNat 0, [(.ofNat 1, 0)]), (.ofNat 5, []), 1, .ofNat 0, [(.ofNat 1, 3)]), ((43, .ofNat 176, []), (.ofNat 1, []), 18, .ofNat 0, [(.ofNat 1, 0)])], [(75, [(.ofNat 0, [(.ofNat 1, 3)]), (.ofNat 0, [(.ofNat 1, 4)])]), (95, [(.ofNat 0, [(.ofNat 1, 5)]), (.ofNat 0, [(.ofNat 1, 4)]), (.ofNat 0, [(.ofNat 1, 1)]), (.ofNat 0, [(.ofNat 1, 2)])])])), (.ofNat 8, [(.negSucc 0, 5)]))], [(2, false)], [(0, [[111]]), (10, [[112], [113]]), (30, [[118]]), (32, [[114, 115, 116, 117]]), (38, [[119]])], [], [], [])
theorem gK37 : cChk 37 gCT gRU gC37 1 gH37 3000 = true := by decide +kernel
noncomputable def gH38 : sHt := ([], [], [(12, [[98]]), (20, [[99]]), (28, [[100]]), (60, [[121]]), (68, [[101]]), (137, [[120]])], [], [(17, [20]), (24, [31, 35]), (34, [32, 36]), (54, [37]), (65, [20]), (75, [32, 36]), (154, [24])], [])
theorem gK38 : cChk 38 gCT gRU gC38 3 gH38 3000 = true := by decide +kernel
noncomputable def gH39 : sHt := ([], [], [(0, [[90]])], [], [], [])
theorem gK39 : cChk 39 gCT gRU gC39 0 gH39 3000 = true := by decide +kernel
noncomputable def gH40 : sHt := ([], [], [(0, [[90]])], [], [], [])
theorem gK40 : cChk 40 gCT gRU gC40 0 gH40 3000 = true := by decide +kernel
noncomputable def gH41 : sHt := ([], [], [(0, [[90]])], [], [], [])
theorem gK41 : cChk 41 gCT gRU gC41 0 gH41 3000 = true := by decide +kernel
noncomputable def gH42 : sHt := ([], [], [(0, [[90]])], [], [], [])
theorem gK42 : cChk 42 gCT gRU gC42 0 gH42 3000 = true := by decide +kernel
noncomputable def gH43 : sHt := ([], [], [(0, [[89]]), (8, [[91, 92, 93, 94, 95]]), (20, [[122]])], [], [(2, [39, 40, 41, 42]), (10, [20]), (21, [24])], [])
theorem gK43 : cChk 43 gCT gRU gC43 0 gH43 3000 = true := by decide +kernel
noncomputable def gH44 : sHt := ([], [], [(14, [[126]]), (18, [[127]])], [], [(7, [0]), (9, [0])], [])
theorem gK44 : cChk 44 gCT gRU gC44 0 gH44 3000 = true := by decide +kernel
noncomputable def gH45 : sHt := ([], [], [(16, [[135]])], [], [(5, [0]), (7, [0])], [])
theorem gK45 : cChk 45 gCT gRU gC45 0 gH45 3000 = true := by decide +kernel
noncomputable def gH46 : sHt := ([(2, ((6, [(1, .ofNat 0, .ofNat 9), (2, .ofNat 0, .ofNat 9), (3, .ofNat 0, .ofNat 14), (4, .ofNat 0, .ofNat 2000), (5, .ofNat 0, .ofNat 14)], [], []), [(31, .ofNat 0, [(.ofNat 1, 0)]), (1, .ofNat 0, [(.ofNat 1, 1)]), (1, .ofNat 0, [(.ofNat 1, 2)]), (1, .ofNat 0, [(.ofNat 1, 5)])], ([((15, .ofNat 0, [(.ofNat 1, 0)]), (.ofNat 1, []), 1, .ofNat 0, [(.ofNat 1, 3)]), ((43, .ofNat 176, []), (.ofNat 2, []), 31, .ofNat 0, [(.ofNat 1, 0)])], [(72, [(.ofNat 0, [(.ofNat 1, 3)]), (.ofNat 0, [(.ofNat 1, 4)])]), (73, [(.ofNat 0, [(.ofNat 1, 3)])]), (94, [(.ofNat 0, [(.ofNat 1, 5)]), (.ofNat 0, [(.ofNat 1, 4)]), (.ofNat 0, [(.ofNat 1, 1)]), (.ofNat 0, [(.ofNat 1, 2)])])])), (.ofNat 14, [(.negSucc 0, 5)]))], [(2, false)], [(0, [[128]]), (10, [[129], [130]]), (38, [[136]]), (40, [[131, 132, 133, 134]]), (46, [[137]])], [], [(32, [45])], [])
theorem gK46 : cChk 46 gCT gRU gC46 1 gH46 3000 = true := by decide +kernel
noncomputable def gH47 : sHt := ([], [], [(19, [[138]]), (23, [[139, 140]])], [], [(3, [44]), (12, [46])], [])
theorem gK47 : cChk 47 gCT gRU gC47 0 gH47 3000 = true := by decide +kernel
noncomputable def gH48 : sHt := ([], [], [(0, [[142]]), (12, [[143]])], [], [(9, [0]), (10, [0])], [])
theorem gK48 : cChk 48 gCT gRU gC48 0 gH48 3000 = true := by decide +kernel
noncomputable def gH49 : sHt := ([], [], [(12, [[123]]), (20, [[124]]), (38, [[125]]), (78, [[141]]), (105, [[144]])], [], [(17, [20]), (34, [32, 36]), (52, [32, 36]), (72, [47]), (83, [20]), (102, [48]), (109, [24])], [])
theorem gK49 : cChk 49 gCT gRU gC49 2 gH49 3000 = true := by decide +kernel
noncomputable def gH50 : sHt := ([], [], [], [], [], [])
theorem gK50 : cChk 50 gCT gRU gC50 1 gH50 3000 = true := by decide +kernel
noncomputable def gH51 : sHt := ([], [], [], [], [], [])
theorem gK51 : cChk 51 gCT gRU gC51 0 gH51 3000 = true := by decide +kernel
noncomputable def gH52 : sHt := ([], [], [], [], [], [])
theorem gK52 : cChk 52 gCT gRU gC52 0 gH52 3000 = true := by decide +kernel
noncomputable def gH53 : sHt := ([(2, ((4, [(2, .ofNat 0, .ofNat 2000), (3, .ofNat 0, .ofNat 12)], [], []), [(18, .ofNat 0, [(.ofNat 1, 0)]), (5, .ofNat 0, [(.ofNat 1, 1)]), (0, .ofNat 0, []), (1, .ofNat 0, [(.ofNat 1, 3)])], ([((43, .ofNat 176, []), (.ofNat 1, []), 18, .ofNat 0, [(.ofNat 1, 0)])], [(61, [(.ofNat 0, [(.ofNat 1, 2)])]), (65, [(.ofNat 0, [(.ofNat 1, 3)]), (.ofNat 0, [(.ofNat 1, 1)])])])), (.ofNat 12, [(.negSucc 0, 3)]))], [(2, false)], [(0, [[152]]), (19, [[154]]), (21, [[153, 155]]), (27, [[156]])], [], [], [])
theorem gK53 : cChk 53 gCT gRU gC53 1 gH53 3000 = true := by decide +kernel
noncomputable def gH54 : sHt := ([], [], [], [], [], [])
theorem gK54 : cChk 54 gCT gRU gC54 0 gH54 3000 = true := by decide +kernel
noncomputable def gH55 : sHt := ([], [], [], [], [], [])
theorem gK55 : cChk 55 gCT gRU gC55 0 gH55 3000 = true := by decide +kernel
noncomputable def gH56 : sHt := ([], [], [], [], [], [])
theorem gK56 : cChk 56 gCT gRU gC56 0 gH56 3000 = true := by decide +kernel
noncomputable def gH57 : sHt := ([], [], [(23, [[149, 150, 151]]), (43, [[157]]), (54, [[158, 159]])], [], [(10, [24]), (17, [51, 52, 54, 55, 56]), (25, [20, 27]), (36, [53]), (56, [20, 27])], [])
theorem gK57 : cChk 57 gCT gRU gC57 1 gH57 3000 = true := by decide +kernel
end CkChk2
