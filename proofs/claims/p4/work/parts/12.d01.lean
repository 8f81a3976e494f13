section CkChk1
noncomputable def gH23 : sHt := ([(2, ((2, [(1, .ofNat 0, .ofNat 30)], [], []), [(56, .ofNat 173, []), (5, .ofNat 0, [(.ofNat 1, 0)]), (0, .ofNat 0, []), (1, .ofNat 0, [(.ofNat 1, 1)])], ([((40, .ofNat 173, []), (.ofNat 1, []), 17, .ofNat 1, []), ((40, .ofNat 173, []), (.ofNat 9, []), 1, .ofNat 0, [])], [(51, []), (49, [(.ofNat 0, [(.ofNat 1, 1)]), (.ofNat 0, [(.ofNat 1, 0)])])])), (.ofNat 30, [(.negSucc 0, 1)]))], [(2, false)], [(0, [[73]]), (19, [[75]]), (21, [[74, 76]]), (27, [[77]])], [], [], [])
theorem gK23 : cChk 23 gCT gRU gC23 1 gH23 3000 = true := by decide +kernel
noncomputable def gH24 : sHt := ([(0, ((13, [(0, .ofNat 0, .ofNat 939), (1, .ofNat 1, .ofNat 940), (2, .ofNat 0, .ofNat 940), (3, .ofNat 0, .ofNat 26), (4, .ofNat 0, .ofNat 2000), (5, .negSucc 0, .ofNat 99), (6, .negSucc 0, .ofNat 99), (7, .negSucc 0, .ofNat 99), (8, .negSucc 0, .ofNat 99), (9, .ofNat 0, .ofNat 940), (10, .ofNat 0, .ofNat 940), (11, .ofNat 1, .ofNat 940), (12, .ofNat 10, .ofNat 32)], [(.ofNat 1, [(.ofNat 1, 0), (.negSucc 0, 1)])], []), [(56, .ofNat 173, [])], ([((40, .ofNat 173, []), (.ofNat 4, []), 1, .ofNat 0, [(.ofNat 1, 11)]), ((1, .ofNat 1, []), (.ofNat 0, [(.ofNat 1, 0)]), 1, .ofNat 0, [(.ofNat 1, 12)]), ((40, .ofNat 173, []), (.ofNat 1, []), 17, .ofNat 1, []), ((40, .ofNat 173, []), (.ofNat 9, []), 1, .ofNat 0, []), ((40, .ofNat 173, []), (.ofNat 3, []), 1, .ofNat 0, [(.ofNat 1, 2)]), ((40, .ofNat 173, []), (.ofNat 2, []), 1, .ofNat 0, [(.ofNat 1, 1)])], [(51, []), (52, [(.ofNat 0, [(.ofNat 1, 0)]), (.ofNat 0, [(.ofNat 1, 3)]), (.ofNat 0, [(.ofNat 1, 4)]), (.ofNat 0, [(.ofNat 1, 5)]), (.ofNat 0, [(.ofNat 1, 6)]), (.ofNat 0, [(.ofNat 1, 7)]), (.ofNat 0, [(.ofNat 1, 8)]), (.ofNat 0, [(.ofNat 1, 9)]), (.ofNat 0, [(.ofNat 1, 10)])]), (40, [(.ofNat 0, [(.ofNat 1, 0)]), (.ofNat 0, [(.ofNat 1, 11)])])])), (.ofNat 940, [(.negSucc 0, 11)]))], [(0, false)], [(0, [[25, 26]]), (11, [[27]]), (39, [[79, 80]]), (52, [[28, 29, 30, 81]]), (92, [[31]]), (100, [[32]]), (119, [[35, 36]]), (154, [[78]]), (164, [[32]]), (169, [[33, 82], [34]])], [], [(102, [20]), (120, [21]), (131, [22]), (148, [23]), (166, [20])], [])
theorem gK24 : cChk 24 gCT gRU gC24 0 gH24 3000 = true := by decide +kernel
noncomputable def gH25 : sHt := ([], [], [], [], [], [])
theorem gK25 : cChk 25 gCT gRU gC25 0 gH25 3000 = true := by decide +kernel
noncomputable def gH26 : sHt := ([], [], [(0, [[90]])], [], [], [])
theorem gK26 : cChk 26 gCT gRU gC26 0 gH26 3000 = true := by decide +kernel
noncomputable def gH27 : sHt := ([], [], [], [], [], [])
theorem gK27 : cChk 27 gCT gRU gC27 0 gH27 3000 = true := by decide +kernel
noncomputable def gH28 : sHt := ([], [], [(0, [[89]]), (8, [[91, 92, 93, 94, 95]])], [], [(2, [26]), (10, [27])], [])
theorem gK28 : cChk 28 gCT gRU gC28 0 gH28 3000 = true := by decide +kernel
noncomputable def gH29 : sHt := ([], [], [], [], [], [])
theorem gK29 : cChk 29 gCT gRU gC29 0 gH29 3000 = true := by decide +kernel
noncomputable def gH30 : sHt := ([], [], [], [], [], [])
theorem gK30 : cChk 30 gCT gRU gC30 0 gH30 3000 = true := by decide +kernel
noncomputable def gH31 : sHt := ([], [], [], [], [], [])
theorem gK31 : cChk 31 gCT gRU gC31 1 gH31 3000 = true := by decide +kernel
noncomputable def gH32 : sHt := ([], [], [], [], [], [])
theorem gK32 : cChk 32 gCT gRU gC32 0 gH32 3000 = true := by decide +kernel
noncomputable def gH33 : sHt := ([], [], [], [], [], [])
theorem gK33 : cChk 33 gCT gRU gC33 0 gH33 3000 = true := by decide +kernel
noncomputable def gH34 : sHt := ([], [], [], [], [], [])
theorem gK34 : cChk 34 gCT gRU gC34 0 gH34 3000 = true := by decide +kernel
noncomputable def gH35 : sHt := ([], [], [(30, [[102, 103, 104, 105]])], [], [(10, [24]), (14, [33, 30, 29, 25, 34]), (32, [20, 27])], [])
theorem gK35 : cChk 35 gCT gRU gC35 1 gH35 3000 = true := by decide +kernel
end CkChk1
