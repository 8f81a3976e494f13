section CkChk10
noncomputable def gH190 : sHt := ([], [], [], [], [(31, [115]), (48, [189]), (60, [133])], [])
theorem gK190 : cChk 190 gCT gRU gC190 1 gH190 3000 = true := by decide +kernel
noncomputable def gH191 : sHt := ([(45, ((10, [(0, .ofNat 0, .ofNat 3), (1, .ofNat 0, .ofNat 2), (2, .ofNat 1, .ofNat 30), (3, .negSucc 2147483647, .ofNat 2147483647), (4, .negSucc 2147483647, .ofNat 2147483647), (5, .ofNat 0, .ofNat 30), (7, .ofNat 1, .ofNat 8), (8, .ofNat 1, .ofNat 3), (9, .ofNat 1, .ofNat 4)], [(.ofNat 1, [(.ofNat 1, 0), (.negSucc 0, 9)]), (.ofNat 1, [(.ofNat 1, 1), (.negSucc 0, 8)])], []), [(16, .ofNat 0, []), (1, .ofNat 0, [(.ofNat 1, 0)]), (1, .ofNat 0, [(.ofNat 1, 1)]), (1, .ofNat 0, [(.ofNat 1, 2)]), (1, .ofNat 0, [(.ofNat 1, 3)]), (1, .ofNat 0, [(.ofNat 1, 4)]), (1, .ofNat 0, [(.ofNat 1, 5)])], ([((0, .ofNat 0, []), (.ofNat 6, []), 18, .ofNat 0, [(.ofNat 1, 6)]), ((2, .ofNat 0, [(.ofNat 1, 6)]), (.ofNat 5, []), 1, .ofNat 0, [(.ofNat 1, 7)]), ((2, .ofNat 0, [(.ofNat 1, 6)]), (.ofNat 3, []), 1, .ofNat 0, [(.ofNat 1, 8)]), ((2, .ofNat 0, [(.ofNat 1, 6)]), (.ofNat 2, []), 1, .ofNat 0, [(.ofNat 1, 9)])], [])), (.ofNat 30, [(.negSucc 0, 5)]))], [(45, false)], [], [], [(2, [102]), (10, [106]), (59, [114]), (80, [189])], [])
theorem gK191 : cChk 191 gCT gRU gC191 2 gH191 3000 = true := by decide +kernel
noncomputable def gH192 : sHt := ([], [], [], [], [], [])
theorem gK192 : cChk 192 gCT gRU gC192 0 gH192 3000 = true := by decide +kernel
noncomputable def gH193 : sHt := ([], [], [], [], [(13, [192])], [])
theorem gK193 : cChk 193 gCT gRU gC193 0 gH193 3000 = true := by decide +kernel
noncomputable def gH194 : sHt := ([(2, ((2, [(1, .ofNat 0, .ofNat 30)], [], []), [(56, .ofNat 173, []), (5, .ofNat 0, [(.ofNat 1, 0)]), (0, .ofNat 0, []), (1, .ofNat 0, [(.ofNat 1, 1)])], ([((40, .ofNat 173, []), (.ofNat 1, []), 17, .ofNat 1, []), ((40, .ofNat 173, []), (.ofNat 9, []), 1, .ofNat 0, [])], [(49, [(.ofNat 0, [(.ofNat 1, 1)]), (.ofNat 0, [(.ofNat 1, 0)])])])), (.ofNat 30, [(.negSucc 0, 1)]))], [(2, false)], [(0, [[73]]), (19, [[75]]), (21, [[74, 76]]), (27, [[77]])], [], [], [])
theorem gK194 : cChk 194 gCT gRU gC194 1 gH194 3000 = true := by decide +kernel
noncomputable def gH195 : sHt := ([(0, ((5, [(0, .ofNat 0, .ofNat 939), (1, .ofNat 1, .ofNat 940), (2, .ofNat 0, .ofNat 940), (3, .ofNat 1, .ofNat 940), (4, .ofNat 10, .ofNat 32)], [(.ofNat 1, [(.ofNat 1, 0), (.negSucc 0, 1)])], []), [(56, .ofNat 173, [])], ([((40, .ofNat 173, []), (.ofNat 4, []), 1, .ofNat 0, [(.ofNat 1, 3)]), ((1, .ofNat 1, []), (.ofNat 0, [(.ofNat 1, 0)]), 1, .ofNat 0, [(.ofNat 1, 4)]), ((40, .ofNat 173, []), (.ofNat 1, []), 17, .ofNat 1, []), ((40, .ofNat 173, []), (.ofNat 9, []), 1, .ofNat 0, []), ((40, .ofNat 173, []), (.ofNat 3, []), 1, .ofNat 0, [(.ofNat 1, 2)]), ((40, .ofNat 173, []), (.ofNat 2, []), 1, .ofNat 0, [(.ofNat 1, 1)])], [(40, [(.ofNat 0, [(.ofNat 1, 0)]), (.ofNat 0, [(.ofNat 1, 3)])])])), (.ofNat 940, [(.negSucc 0, 3)]))], [(0, false)], [(0, [[25, 26]]), (11, [[27]]), (39, [[79, 80]]), (52, [[28, 29, 30, 81]]), (92, [[31]]), (100, [[32]]), (119, [[35, 36]]), (154, [[78]]), (164, [[32]]), (169, [[33, 82, 185], [34]])], [], [(102, [20]), (120, [21]), (131, [22]), (148, [194]), (166, [20])], [])
theorem gK195 : cChk 195 gCT gRU gC195 0 gH195 3000 = true := by decide +kernel
noncomputable def gH196 : sHt := ([], [], [], [], [], [])
theorem gK196 : cChk 196 gCT gRU gC196 0 gH196 3000 = true := by decide +kernel
noncomputable def gH197 : sHt := ([], [], [], [], [], [])
theorem gK197 : cChk 197 gCT gRU gC197 0 gH197 3000 = true := by decide +kernel
noncomputable def gH198 : sHt := ([], [], [(30, [[102, 103, 104, 105]])], [], [(10, [195]), (14, [33, 30, 29, 25, 197]), (32, [20, 27])], [])
theorem gK198 : cChk 198 gCT gRU gC198 1 gH198 3000 = true := by decide +kernel
end CkChk10
