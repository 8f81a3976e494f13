section CkChk1
noncomputable def gH25 : sHt := ([], [], [], [], [], [])
theorem gK25 : cChk 25 gCT gRU gC25 0 gH25 3000 = true := by decide +kernel
noncomputable def gH26 : sHt := ([], [], [(0, [[95]])], [], [], [])
theorem gK26 : cChk 26 gCT gRU gC26 0 gH26 3000 = true := by decide +kernel
noncomputable def gH27 : sHt := ([], [], [], [], [], [])
theorem gK27 : cChk 27 gCT gRU gC27 0 gH27 3000 = true := by decide +kernel
noncomputable def gH28 : sHt := ([], [], [(0, [[93], [94]]), (8, [[96, 97, 98, 99, 100], [101, 102, 103, 104, 105]])], [], [(2, [26]), (10, [27])], [])
theorem gK28 : cChk 28 gCT gRU gC28 0 gH28 3000 = true := by decide +kernel
noncomputable def gH29 : sHt := ([], [], [], [], [], [])
theorem gK29 : cChk 29 gCT gRU gC29 0 gH29 3000 = true := by decide +kernel
noncomputable def gH30 : sHt := ([], [], [], [], [], [])
theorem gK30 : cChk 30 gCT gRU gC30 0 gH30 3000 = true := by decide +kernel
noncomputable def gH31 : sHt := ([], [], [], [], [], [])
theorem gK31 : cChk 31 gCT gRU gC31 1 gH31 3000 = true := by decide +kernel
noncomputable def gH32 : sHt := ([], [], [], [], [], [])
theorem gK32 : cChk 32 gCT gRU gC32 0 gH32 3000 = true := by decide +kernel
noncomputable def gH33 : sHt := ([], [], [], [], [], [])
theorem gK33 : cChk 33 gCT gRU gC33 0 gH33 3000 = true := by decide +kernel
noncomputable def gH34 : sHt := ([], [], [], [], [], [])
theorem gK34 : cChk 34 gCT gRU gC34 0 gH34 3000 = true := by decide +kernel
noncomputable def gH35 : sHt := ([], [], [(30, [[112, 117, 118, 119], [113, 114, 115, 116]])], [], [(10, [24]), (14, [33, 30, 29, 25, 34]), (32, [20, 27])], [])
theorem gK35 : cChk 35 gCT gRU gC35 1 gH35 3000 = true := by decide +kernel
noncomputable def gH36 : sHt := ([], [], [(21, [[120, 132], [121, 122], [123, 124]]), (29, [[125]]), (45, [[126, 127], [128, 129]]), (57, [[130], [131]])], [], [(10, [24]), (23, [20, 27]), (47, [20, 27])], [])
theorem gK36 : cChk 36 gCT gRU gC36 0 gH36 3000 = true := by decide +kernel
noncomputable def gH37 : sHt := ([(2, ((5, [(0, .negSucc 2147483647, .ofNat 2147483647), (1, .negSucc 2147483647, .ofNat 2147483647), (2, .ofNat 0, .ofNat 8), (3, .ofNat 0, .ofNat 2000), (4, .ofNat 0, .ofNat 8)], [], []), [(114, .ofNat 15, []), (1, .ofNat 0, [(.ofNat 1, 0)]), (1, .ofNat 0, [(.ofNat 1, 1)]), (1, .ofNat 0, [(.ofNat 1, 4)])], ([((98, .ofNat 15, []), (.ofNat 5, []), 1, .ofNat 0, [(.ofNat 1, 2)]), ((43, .ofNat 176, []), (.ofNat 1, []), 114, .ofNat 15, [])], [(75, [(.ofNat 0, [(.ofNat 1, 2)]), (.ofNat 0, [(.ofNat 1, 3)])]), (95, [(.ofNat 0, [(.ofNat 1, 4)]), (.ofNat 0, [(.ofNat 1, 3)]), (.ofNat 0, [(.ofNat 1, 0)]), (.ofNat 0, [(.ofNat 1, 1)])])])), (.ofNat 8, [(.negSucc 0, 4)]))], [(2, false)], [(0, [[133]]), (10, [[134], [135]]), (30, [[140]]), (32, [[136, 137, 138, 139]]), (38, [[141]])], [], [], [])
theorem gK37 : cChk 37 gCT gRU gC37 1 gH37 3000 = true := by decide +kernel
noncomputable def gH38 : sHt := ([], [], [(12, [[108]]), (20, [[109]]), (28, [[110]]), (60, [[143]]), (68, [[111]]), (137, [[142]])], [], [(17, [20]), (24, [31, 35]), (34, [32, 36]), (54, [37]), (65, [20]), (75, [32, 36]), (154, [24])], [])
theorem gK38 : cChk 38 gCT gRU gC38 3 gH38 3000 = true := by decide +kernel
noncomputable def gH39 : sHt := ([], [], [(0, [[95]])], [], [], [])
theorem gK39 : cChk 39 gCT gRU gC39 0 gH39 3000 = true := by decide +kernel
noncomputable def gH40 : sHt := ([], [], [(0, [[95]])], [], [], [])
theorem gK40 : cChk 40 gCT gRU gC40 0 gH40 3000 = true := by decide +kernel
noncomputable def gH41 : sHt := ([], [], [(0, [[95]])], [], [], [])
theorem gK41 : cChk 41 gCT gRU gC41 0 gH41 3000 = true := by decide +kernel
noncomputable def gH42 : sHt := ([], [], [(0, [[95]])], [], [], [])
theorem gK42 : cChk 42 gCT gRU gC42 0 gH42 3000 = true := by decide +kernel
noncomputable def gH43 : sHt := ([], [], [(0, [[93], [94]]), (8, [[96, 97, 98, 99, 100], [101, 102, 103, 104, 105]]), (20, [[144], [145]])], [], [(2, [39, 40, 41, 42]), (10, [20]), (21, [24])], [])
theorem gK43 : cChk 43 gCT gRU gC43 0 gH43 3000 = true := by decide +kernel
noncomputable def gH44 : sHt := ([], [], [(14, [[149]]), (18, [[150]])], [], [(7, [0]), (9, [0])], [])
theorem gK44 : cChk 44 gCT gRU gC44 0 gH44 3000 = true := by decide +kernel
noncomputable def gH45 : sHt := ([], [], [(16, [[158]])], [], [(5, [0]), (7, [0])], [])
theorem gK45 : cChk 45 gCT gRU gC45 0 gH45 3000 = true := by decide +kernel
noncomputable def gH46 : sHt := ([(2, ((6, [(1, .ofNat 0, .ofNat 9), (2, .ofNat 0, .ofNat 9), (3, .ofNat 0, .ofNat 14), (4, .ofNat 0, .ofNat 2000), (5, .ofNat 0, .ofNat 14)], [], []), [(31, .ofNat 0, [(.ofNat 1, 0)]), (1, .ofNat 0, [(.ofNat 1, 1)]), (1, .ofNat 0, [(.ofNat 1, 2)]), (1, .ofNat 0, [(.ofNat 1, 5)])], ([((15, .ofNat 0, [(.ofNat 1, 0)]), (.ofNat 1, []), 1, .ofNat 0, [(.ofNat 1, 3)]), ((43, .ofNat 176, []), (.ofNat 2, []), 31, .ofNat 0, [(.ofNat 1, 0)])], [(72, [(.ofNat 0, [(.ofNat 1, 3)]), (.ofNat 0, [(.ofNat 1, 4)])]), (73, [(.ofNat 0, [(.ofNat 1, 3)])]), (94, [(.ofNat 0, [(.ofNat 1, 5)]), (.ofNat 0, [(.ofNat 1, 4)]), (.ofNat 0, [(.ofNat 1, 1)]), (.ofNat 0, [(.ofNat 1, 2)])])])), (.ofNat 14, [(.negSucc 0, 5)]))], [(2, false)], [(0, [[151]]), (10, [[152], [153]]), (38, [[159]]), (40, [[154, 155, 156, 157]]), (46, [[160]])], [], [(32, [45])], [])
theorem gK46 : cChk 46 gCT gRU gC46 1 gH46 3000 = true := by decide +kernel
noncomputable def gH47 : sHt := ([], [], [(19, [[161]]), (23, [[162, 163]])], [], [(3, [44]), (12, [46])], [])
theorem gK47 : cChk 47 gCT gRU gC47 0 gH47 3000 = true := by decide +kernel
noncomputable def gH48 : sHt := ([], [], [(0, [[165]]), (12, [[166]])], [], [(9, [0]), (10, [0])], [])
theorem gK48 : cChk 48 gCT gRU gC48 0 gH48 3000 = true := by decide +kernel
noncomputable def gH49 : sHt := ([], [], [(12, [[146]]), (20, [[147]]), (38, [[148]]), (78, [[164]]), (105, [[167]])], [], [(17, [20]), (34, [32, 36]), (52, [32, 36]), (72, [47]), (83, [20]), (102, [48]), (109, [24])], [])
theorem gK49 : cChk 49 gCT gRU gC49 2 gH49 3000 = true := by decide +kernel
noncomputable def gH50 : sHt := ([], [], [], [], [], [])
theorem gK50 : cChk 50 gCT gRU gC50 1 gH50 3000 = true := by decide +kernel
noncomputable def gH51 : sHt := ([], [], [], [], [], [])
theorem gK51 : cChk 51 gCT gRU gC51 0 gH51 3000 = true := by decide +kernel
noncomputable def gH52 : sHt := ([], [], [], [], [], [])
theorem gK52 : cChk 52 gCT gRU gC52 0 gH52 3000 = true := by decide +kernel
noncomputable def gH53 : sHt := ([(2, ((3, [(1, .ofNat 0, .ofNat 2000), (2, .ofNat 0, .ofNat 12)], [], []), [(114, .ofNat 15, []), (5, .ofNat 0, [(.ofNat 1, 0)]), (0, .ofNat 0, []), (1, .ofNat 0, [(.ofNat 1, 2)])], ([((43, .ofNat 176, []), (.ofNat 1, []), 114, .ofNat 15, [])], [(61, [(.ofNat 0, [(.ofNat 1, 1)])]), (65, [(.ofNat 0, [(.ofNat 1, 2)]), (.ofNat 0, [(.ofNat 1, 0)])])])), (.ofNat 12, [(.negSucc 0, 2)]))], [(2, false)], [(0, [[183], [184]]), (19, [[188], [189]]), (21, [[185, 190], [186, 187]]), (27, [[191], [192]])], [], [], [])
theorem gK53 : cChk 53 gCT gRU gC53 1 gH53 3000 = true := by decide +kernel
noncomputable def gH54 : sHt := ([], [], [], [], [], [])
theorem gK54 : cChk 54 gCT gRU gC54 0 gH54 3000 = true := by decide +kernel
noncomputable def gH55 : sHt := ([], [], [], [], [], [])
theorem gK55 : cChk 55 gCT gRU gC55 0 gH55 3000 = true := by decide +kernel
noncomputable def gH56 : sHt := ([], [], [], [], [], [])
theorem gK56 : cChk 56 gCT gRU gC56 0 gH56 3000 = true := by decide +kernel
noncomputable def gH57 : sHt := ([], [], [(23, [[172, 179, 180], [173, 174, 175], [176, 177, 178]]), (31, [[181], [182]]), (43, [[193], [194], [195]]), (54, [[196, 205], [197, 198, 199, 200, 201, 202], [203, 204]])], [], [(10, [24]), (17, [51, 52, 54, 55, 56]), (25, [20, 27]), (36, [53]), (56, [20, 27])], [])
theorem gK57 : cChk 57 gCT gRU gC57 1 gH57 3000 = true := by decide +kernel
noncomputable def gH58 : sHt := ([], [], [(0, [[207]]), (75, [[208], [209]])], [], [(70, [0]), (71, [0])], [])
theorem gK58 : cChk 58 gCT gRU gC58 0 gH58 3000 = true := by decide +kernel
noncomputable def gH59 : sHt := ([], [], [(12, [[168]]), (20, [[169]]), (35, [[170]]), (53, [[171]]), (93, [[206]]), (122, [[210]])], [], [(17, [20]), (31, [50, 57]), (49, [32, 36]), (67, [32, 36]), (87, [47]), (98, [20]), (119, [58]), (126, [24])], [])
theorem gK59 : cChk 59 gCT gRU gC59 3 gH59 3000 = true := by decide +kernel
noncomputable def gH60 : sHt := ([], [], [], [], [], [])
theorem gK60 : cChk 60 gCT gRU gC60 0 gH60 3000 = true := by decide +kernel
noncomputable def gH61 : sHt := ([], [], [(28, [[215, 217, 218]]), (53, [[219]]), (57, [[222]]), (74, [[220]]), (90, [[216, 221]])], [], [(15, [24]), (22, [51, 52, 54, 55, 56]), (33, [20, 27]), (50, [53]), (62, [20, 27])], [])
theorem gK61 : cChk 61 gCT gRU gC61 0 gH61 3000 = true := by decide +kernel
noncomputable def gH62 : sHt := ([], [], [(0, [[95]])], [], [], [])
theorem gK62 : cChk 62 gCT gRU gC62 0 gH62 3000 = true := by decide +kernel
noncomputable def gH63 : sHt := ([], [], [(0, [[95]])], [], [], [])
theorem gK63 : cChk 63 gCT gRU gC63 0 gH63 3000 = true := by decide +kernel
end CkChk1
