section CkChk13
noncomputable def gH217 : sHt := ([(13, ((6, [(1, .ofNat 0, .ofNat 40), (2, .ofNat 0, .ofNat 1), (3, .ofNat 0, .ofNat 20), (4, .ofNat 1, .ofNat 4), (5, .ofNat 0, .ofNat 40)], [], []), [(48, .ofNat 57, []), (56, .ofNat 173, []), (18, .ofNat 0, [(.ofNat 1, 0)]), (1, .ofNat 1, []), (1, .ofNat 0, [(.ofNat 1, 2)]), (1, .ofNat 0, [(.ofNat 1, 3)]), (0, .ofNat 0, [])], ([((40, .ofNat 173, []), (.ofNat 9, []), 1, .ofNat 0, [(.ofNat 1, 4)]), ((32, .ofNat 57, []), (.ofNat 2, []), 1, .ofNat 0, [(.ofNat 1, 5)]), ((40, .ofNat 173, []), (.ofNat 1, []), 17, .ofNat 1, [])], [])), (.ofNat 0, [])), (13, ((5, [(1, .ofNat 0, .ofNat 40), (2, .ofNat 0, .ofNat 1), (3, .ofNat 0, .ofNat 20), (4, .ofNat 1, .ofNat 40)], [], []), [(48, .ofNat 57, []), (56, .ofNat 173, []), (18, .ofNat 0, [(.ofNat 1, 0)]), (1, .ofNat 1, []), (1, .ofNat 0, [(.ofNat 1, 2)]), (1, .ofNat 0, [(.ofNat 1, 3)]), (0, .ofNat 0, [])], ([((40, .ofNat 173, []), (.ofNat 9, []), 1, .ofNat 0, []), ((32, .ofNat 57, []), (.ofNat 2, []), 1, .ofNat 0, [(.ofNat 1, 4)]), ((40, .ofNat 173, []), (.ofNat 1, []), 17, .ofNat 1, [])], [(2, [(.ofNat 0, [(.ofNat 1, 4)])])])), (.ofNat 20, [(.negSucc 0, 3)]))], [(13, false)], [], [], [(4, [215]), (28, [21]), (31, [188]), (38, [21]), (60, [182]), (83, [20]), (90, [215, 216]), (105, [174, 182]), (124, [174, 182])], [])
theorem gK217 : cChk 217 gCT gRU gC217 3 gH217 3000 = true := by decide +kernel
noncomputable def gH218 : sHt := ([(13, ((3, [(1, .ofNat 0, .ofNat 40), (2, .ofNat 1, .ofNat 4)], [], []), [(48, .ofNat 57, []), (56, .ofNat 173, []), (18, .ofNat 0, [(.ofNat 1, 0)]), (1, .ofNat 1, []), (1, .ofNat 0, []), (1, .ofNat 0, []), (0, .ofNat 0, [])], ([((40, .ofNat 173, []), (.ofNat 1, []), 17, .ofNat 1, []), ((40, .ofNat 173, []), (.ofNat 9, []), 1, .ofNat 0, [(.ofNat 1, 2)]), ((32, .ofNat 57, []), (.ofNat 2, []), 1, .ofNat 0, [(.ofNat 1, 1)])], [])), (.ofNat 0, []))], [(13, false)], [], [], [(4, [216])], [])
theorem gK218 : cChk 218 gCT gRU gC218 3 gH218 3000 = true := by decide +kernel
noncomputable def gH219 : sHt := ([], [], [(15, [[18]])], [], [(16, [20]), (23, [217, 218]), (35, [16, 23])], [])
theorem gK219 : cChk 219 gCT gRU gC219 0 gH219 3000 = true := by decide +kernel
noncomputable def gH220 : sHt := ([], [], [], [], [(4, [4]), (19, [219])], [])
theorem gK220 : cChk 220 gCT gRU gC220 1 gH220 3000 = true := by decide +kernel
noncomputable def gH221 : sHt := ([], [], [], [], [(1, [21]), (9, [32]), (35, [16]), (58, [16])], [])
theorem gK221 : cChk 221 gCT gRU gC221 2 gH221 3000 = true := by decide +kernel
noncomputable def gH222 : sHt := ([], [], [(39, [[24, 25, 26]])], [], [], [])
theorem gK222 : cChk 222 gCT gRU gC222 0 gH222 3000 = true := by decide +kernel
noncomputable def gH223 : sHt := ([], [], [], [], [(1, [27]), (9, [22]), (35, [23]), (58, [23])], [])
theorem gK223 : cChk 223 gCT gRU gC223 2 gH223 3000 = true := by decide +kernel
noncomputable def gH224 : sHt := ([], [], [(39, [[24, 25, 26]])], [], [], [])
theorem gK224 : cChk 224 gCT gRU gC224 0 gH224 3000 = true := by decide +kernel
noncomputable def gH225 : sHt := ([], [], [(39, [[24, 25]])], [], [], [])
theorem gK225 : cChk 225 gCT gRU gC225 0 gH225 3000 = true := by decide +kernel
noncomputable def gH226 : sHt := ([], [], [(39, [[24, 25, 26]])], [], [], [])
theorem gK226 : cChk 226 gCT gRU gC226 0 gH226 3000 = true := by decide +kernel
noncomputable def gH227 : sHt := ([], [], [(39, [[24, 25, 26]])], [], [], [])
theorem gK227 : cChk 227 gCT gRU gC227 0 gH227 3000 = true := by decide +kernel
noncomputable def gH228 : sHt := ([], [], [(39, [[24]])], [], [], [])
theorem gK228 : cChk 228 gCT gRU gC228 0 gH228 3000 = true := by decide +kernel
noncomputable def gH229 : sHt := ([], [], [(39, [[24, 25, 26]])], [], [], [])
theorem gK229 : cChk 229 gCT gRU gC229 0 gH229 3000 = true := by decide +kernel
noncomputable def gH230 : sHt := ([], [], [(39, [[24]])], [], [], [])
theorem gK230 : cChk 230 gCT gRU gC230 0 gH230 3000 = true := by decide +kernel
noncomputable def gH231 : sHt := ([], [], [(0, [[22]])], [], [(17, [44]), (35, [44]), (53, [44]), (68, [20]), (80, [32, 22]), (89, [32, 22]), (98, [32, 22]), (106, [16, 23]), (113, [26, 29]), (124, [224, 225, 226, 227, 228, 229, 230])], [])
theorem gK231 : cChk 231 gCT gRU gC231 2 gH231 3000 = true := by decide +kernel
noncomputable def gH232 : sHt := ([(13, ((3, [(1, .ofNat 0, .ofNat 40), (2, .ofNat 1, .ofNat 4)], [], []), [(43, .ofNat 52, []), (56, .ofNat 173, []), (18, .ofNat 0, [(.ofNat 1, 0)]), (1, .ofNat 9, []), (1, .ofNat 0, []), (1, .ofNat 0, []), (0, .ofNat 0, [])], ([((40, .ofNat 173, []), (.ofNat 9, []), 1, .ofNat 0, [(.ofNat 1, 2)]), ((40, .ofNat 173, []), (.ofNat 1, []), 17, .ofNat 1, []), ((27, .ofNat 52, []), (.ofNat 2, []), 1, .ofNat 0, [(.ofNat 1, 1)])], [(1, [(.ofNat 0, [(.ofNat 1, 1)])])])), (.ofNat 0, []))], [(13, false)], [], [], [(4, [221])], [])
theorem gK232 : cChk 232 gCT gRU gC232 3 gH232 3000 = true := by decide +kernel
end CkChk13
