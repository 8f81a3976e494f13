section CkChk3
noncomputable def gH60 : sHt := ([], [], [], [], [(16, [16]), (29, [47, 48]), (41, [56, 59]), (71, [20])], [])
theorem gK60 : cChk 60 gCT gRU gC60 0 gH60 3000 = true := by decide +kernel
noncomputable def gH61 : sHt := ([], [], [], [], [(14, [16]), (27, [40, 44]), (34, [56, 59]), (61, [20])], [])
theorem gK61 : cChk 61 gCT gRU gC61 1 gH61 3000 = true := by decide +kernel
noncomputable def gH62 : sHt := ([], [], [], [], [(16, [16]), (29, [47, 48]), (59, [20])], [])
theorem gK62 : cChk 62 gCT gRU gC62 0 gH62 3000 = true := by decide +kernel
noncomputable def gH63 : sHt := ([], [], [], [], [(49, [16]), (59, [26, 29]), (70, [26, 29]), (109, [20])], [])
theorem gK63 : cChk 63 gCT gRU gC63 2 gH63 3000 = true := by decide +kernel
noncomputable def gH64 : sHt := ([(43, ((5, [(2, .ofNat 0, .ofNat 900), (4, .ofNat 0, .ofNat 1)], [], []), [(59, .ofNat 176, []), (18, .ofNat 0, [(.ofNat 1, 0)]), (31, .ofNat 0, [(.ofNat 1, 1)]), (1, .ofNat 0, [(.ofNat 1, 2)])], ([((40, .ofNat 173, []), (.ofNat 9, []), 1, .ofNat 0, []), ((43, .ofNat 176, []), (.ofNat 0, []), 56, .ofNat 173, []), ((43, .ofNat 176, []), (.ofNat 4, []), 1, .ofNat 0, [(.ofNat 1, 3)]), ((43, .ofNat 176, []), (.ofNat 3, []), 1, .ofNat 0, [(.ofNat 1, 4)]), ((43, .ofNat 176, []), (.ofNat 2, []), 31, .ofNat 0, [(.ofNat 1, 1)]), ((43, .ofNat 176, []), (.ofNat 1, []), 18, .ofNat 0, [(.ofNat 1, 0)]), ((40, .ofNat 173, []), (.ofNat 1, []), 17, .ofNat 1, [])], [])), (.ofNat 900, [(.negSucc 0, 2)])), (43, ((6, [(2, .ofNat 0, .ofNat 900), (3, .ofNat 1, .ofNat 4), (5, .ofNat 0, .ofNat 1)], [], []), [(59, .ofNat 176, []), (18, .ofNat 0, [(.ofNat 1, 0)]), (31, .ofNat 0, [(.ofNat 1, 1)]), (1, .ofNat 0, [(.ofNat 1, 2)])], ([((40, .ofNat 173, []), (.ofNat 9, []), 1, .ofNat 0, [(.ofNat 1, 3)]), ((43, .ofNat 176, []), (.ofNat 0, []), 56, .ofNat 173, []), ((43, .ofNat 176, []), (.ofNat 4, []), 1, .ofNat 0, [(.ofNat 1, 4)]), ((43, .ofNat 176, []), (.ofNat 3, []), 1, .ofNat 0, [(.ofNat 1, 5)]), ((43, .ofNat 176, []), (.ofNat 2, []), 31, .ofNat 0, [(.ofNat 1, 1)]), ((43, .ofNat 176, []), (.ofNat 1, []), 18, .ofNat 0, [(.ofNat 1, 0)]), ((40, .ofNat 173, []), (.ofNat 1, []), 17, .ofNat 1, [])], [])), (.ofNat 0, []))], [(43, false)], [], [], [(14, [8]), (21, [15]), (40, [20]), (74, [21]), (125, [63]), (132, [62]), (139, [61]), (146, [60]), (153, [55]), (160, [46]), (167, [39]), (174, [31]), (185, [16]), (194, [24, 33])], [])
theorem gK64 : cChk 64 gCT gRU gC64 1 gH64 3000 = true := by decide +kernel
noncomputable def gH65 : sHt := ([], [], [], [], [], [])
theorem gK65 : cChk 65 gCT gRU gC65 0 gH65 3000 = true := by decide +kernel
noncomputable def gH66 : sHt := ([], [], [], [], [], [])
theorem gK66 : cChk 66 gCT gRU gC66 0 gH66 3000 = true := by decide +kernel
noncomputable def gH67 : sHt := ([], [], [(50, [[0]]), (102, [[0]])], [], [(4, [4]), (19, [64]), (91, [65]), (98, [66])], [])
theorem gK67 : cChk 67 gCT gRU gC67 3 gH67 3000 = true := by decide +kernel
noncomputable def gH68 : sHt := ([], [], [], [], [], [])
theorem gK68 : cChk 68 gCT gRU gC68 0 gH68 3000 = true := by decide +kernel
noncomputable def gH69 : sHt := ([], [], [(50, [[1]]), (102, [[1]])], [], [(4, [4]), (19, [64]), (91, [68]), (98, [66])], [])
theorem gK69 : cChk 69 gCT gRU gC69 3 gH69 3000 = true := by decide +kernel
noncomputable def gH70 : sHt := ([], [], [], [], [], [])
theorem gK70 : cChk 70 gCT gRU gC70 0 gH70 3000 = true := by decide +kernel
noncomputable def gH71 : sHt := ([], [], [], [], [], [])
theorem gK71 : cChk 71 gCT gRU gC71 0 gH71 3000 = true := by decide +kernel
noncomputable def gH72 : sHt := ([], [], [], [], [], [])
theorem gK72 : cChk 72 gCT gRU gC72 4 gH72 3000 = true := by decide +kernel
noncomputable def gH73 : sHt := ([], [], [], [], [(2, [35]), (22, [72])], [])
theorem gK73 : cChk 73 gCT gRU gC73 0 gH73 3000 = true := by decide +kernel
noncomputable def gH74 : sHt := ([(4, ((3, [(0, .ofNat 0, .ofNat 13), (2, .ofNat 0, .ofNat 3)], [], []), [(16, .ofNat 0, []), (1, .ofNat 0, [(.ofNat 1, 0)]), (1, .ofNat 0, [(.ofNat 1, 1)]), (1, .ofNat 0, [(.ofNat 1, 2)])], ([], [])), (.ofNat 3, [(.negSucc 0, 2)]))], [(4, false)], [], [], [(25, [73])], [])
theorem gK74 : cChk 74 gCT gRU gC74 2 gH74 3000 = true := by decide +kernel
noncomputable def gH75 : sHt := ([], [], [], [], [(2, [35])], [])
theorem gK75 : cChk 75 gCT gRU gC75 1 gH75 3000 = true := by decide +kernel
noncomputable def gH76 : sHt := ([], [], [], [], [(2, [71]), (99, [75]), (123, [74])], [])
theorem gK76 : cChk 76 gCT gRU gC76 0 gH76 3000 = true := by decide +kernel
noncomputable def gH77 : sHt := ([], [], [], [], [], [])
theorem gK77 : cChk 77 gCT gRU gC77 0 gH77 3000 = true := by decide +kernel
noncomputable def gH78 : sHt := ([], [], [], [], [], [])
theorem gK78 : cChk 78 gCT gRU gC78 0 gH78 3000 = true := by decide +kernel
noncomputable def gH79 : sHt := ([], [], [], [], [], [])
theorem gK79 : cChk 79 gCT gRU gC79 2 gH79 3000 = true := by decide +kernel
noncomputable def gH80 : sHt := ([], [], [], [], [(3, [77]), (70, [79]), (91, [36]), (101, [34]), (119, [78])], [])
theorem gK80 : cChk 80 gCT gRU gC80 1 gH80 3000 = true := by decide +kernel
end CkChk3
