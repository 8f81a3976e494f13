section CkChk3
noncomputable def gH58 : sHt := ([], [], [(0, [[161]]), (75, [[162], [163]])], [], [(70, [0]), (71, [0])], [])
theorem gK58 : cChk 58 gCT gRU gC58 0 gH58 3000 = true := by decide +kernel
noncomputable def gH59 : sHt := ([], [], [(12, [[145]]), (20, [[146]]), (35, [[147]]), (53, [[148]]), (93, [[160]]), (122, [[164]])], [], [(17, [20]), (31, [50, 57]), (49, [32, 36]), (67, [32, 36]), (87, [47]), (98, [20]), (119, [58]), (126, [24])], [])
theorem gK59 : cChk 59 gCT gRU gC59 3 gH59 3000 = true := by decide +kernel
noncomputable def gH60 : sHt := ([], [], [], [], [], [])
theorem gK60 : cChk 60 gCT gRU gC60 0 gH60 3000 = true := by decide +kernel
noncomputable def gH61 : sHt := ([], [], [(28, [[169, 171, 172]]), (53, [[173]]), (57, [[175]]), (74, [[174]]), (90, [[170]])], [], [(15, [24]), (22, [51, 52, 54, 55, 56]), (33, [20, 27]), (50, [53]), (62, [20, 27])], [])
theorem gK61 : cChk 61 gCT gRU gC61 0 gH61 3000 = true := by decide +kernel
noncomputable def gH62 : sHt := ([], [], [(0, [[90]])], [], [], [])
theorem gK62 : cChk 62 gCT gRU gC62 0 gH62 3000 = true := by decide +kernel
noncomputable def gH63 : sHt := ([], [], [(0, [[90]])], [], [], [])
theorem gK63 : cChk 63 gCT gRU gC63 0 gH63 3000 = true := by decide +kernel
noncomputable def gH64 : sHt := ([], [], [(0, [[90]])], [], [], [])
theorem gK64 : cChk 64 gCT gRU gC64 0 gH64 3000 = true := by decide +kernel
noncomputable def gH65 : sHt := ([], [], [(0, [[90]])], [], [], [])
theorem gK65 : cChk 65 gCT gRU gC65 0 gH65 3000 = true := by decide +kernel
noncomputable def gH66 : sHt := ([], [], [(0, [[90]])], [], [], [])
theorem gK66 : cChk 66 gCT gRU gC66 0 gH66 3000 = true := by decide +kernel
noncomputable def gH67 : sHt := ([], [], [(10, [[37]]), (46, [[42, 43]]), (66, [[38, 39, 40, 41]])], [], [], [])
theorem gK67 : cChk 67 gCT gRU gC67 1 gH67 3000 = true := by decide +kernel
noncomputable def gH68 : sHt := ([(9, ((8, [(0, .ofNat 0, .ofNat 940), (1, .ofNat 0, .ofNat 940), (2, .ofNat 1, .ofNat 4), (3, .ofNat 0, .ofNat 941), (4, .ofNat 0, .ofNat 941), (5, .negSucc 2147483647, .ofNat 2147483647), (7, .ofNat 0, .ofNat 940)], [], []), [(56, .ofNat 173, []), (1, .ofNat 0, [(.ofNat 1, 3)]), (1, .ofNat 0, [(.ofNat 1, 4)]), (1, .ofNat 0, [(.ofNat 1, 5)]), (5, .ofNat 0, [(.ofNat 1, 6)]), (0, .ofNat 0, []), (0, .ofNat 0, [])], ([((40, .ofNat 173, []), (.ofNat 7, []), 1, .negSucc 0, []), ((40, .ofNat 173, []), (.ofNat 6, []), 1, .ofNat 0, []), ((40, .ofNat 173, []), (.ofNat 1, []), 17, .ofNat 1, []), ((40, .ofNat 173, []), (.ofNat 9, []), 1, .ofNat 0, [(.ofNat 1, 2)]), ((40, .ofNat 173, []), (.ofNat 2, []), 1, .ofNat 0, [(.ofNat 1, 1)]), ((40, .ofNat 173, []), (.ofNat 4, []), 1, .ofNat 0, [(.ofNat 1, 7)])], [(44, [(.ofNat 0, [(.ofNat 1, 0)]), (.ofNat 0, [(.ofNat 1, 7)]), (.ofNat 0, [(.ofNat 1, 3)]), (.ofNat 0, [(.ofNat 1, 4)]), (.ofNat 0, [(.ofNat 1, 5)]), (.ofNat 0, [(.ofNat 1, 6)])])])), (.ofNat 940, [(.negSucc 0, 7)]))], [(9, false)], [(7, [[44]]), (9, [[45]]), (31, [[46]]), (45, [[54], [55], [56]]), (82, [[58], [59], [60]]), (96, [[57, 61, 62, 63, 71, 72]]), (109, [[47, 48, 49, 64]]), (124, [[65]]), (135, [[66]]), (152, [[67], [68]]), (162, [[50, 51, 52, 53, 69, 70]])], [], [], [])
theorem gK68 : cChk 68 gCT gRU gC68 6 gH68 3000 = true := by decide +kernel
noncomputable def gH69 : sHt := ([(2, ((3, [(1, .ofNat 1, .ofNat 4), (2, .ofNat 0, .ofNat 30)], [], []), [(56, .ofNat 173, []), (5, .ofNat 0, [(.ofNat 1, 0)]), (0, .ofNat 0, []), (1, .ofNat 0, [(.ofNat 1, 2)])], ([((40, .ofNat 173, []), (.ofNat 1, []), 17, .ofNat 1, []), ((40, .ofNat 173, []), (.ofNat 9, []), 1, .ofNat 0, [(.ofNat 1, 1)])], [(49, [(.ofNat 0, [(.ofNat 1, 2)]), (.ofNat 0, [(.ofNat 1, 0)])])])), (.ofNat 30, [(.negSucc 0, 2)]))], [(2, false)], [(0, [[73]]), (19, [[75]]), (21, [[74, 76]]), (27, [[77]])], [], [], [])
theorem gK69 : cChk 69 gCT gRU gC69 1 gH69 3000 = true := by decide +kernel
noncomputable def gH70 : sHt := ([(0, ((6, [(0, .ofNat 0, .ofNat 939), (1, .ofNat 1, .ofNat 940), (2, .ofNat 0, .ofNat 940), (3, .ofNat 1, .ofNat 4), (4, .ofNat 1, .ofNat 940), (5, .ofNat 10, .ofNat 32)], [(.ofNat 1, [(.ofNat 1, 0), (.negSucc 0, 1)])], []), [(56, .ofNat 173, [])], ([((40, .ofNat 173, []), (.ofNat 4, []), 1, .ofNat 0, [(.ofNat 1, 4)]), ((1, .ofNat 1, []), (.ofNat 0, [(.ofNat 1, 0)]), 1, .ofNat 0, [(.ofNat 1, 5)]), ((40, .ofNat 173, []), (.ofNat 1, []), 17, .ofNat 1, []), ((40, .ofNat 173, []), (.ofNat 9, []), 1, .ofNat 0, [(.ofNat 1, 3)]), ((40, .ofNat 173, []), (.ofNat 3, []), 1, .ofNat 0, [(.ofNat 1, 2)]), ((40, .ofNat 173, []), (.ofNat 2, []), 1, .ofNat 0, [(.ofNat 1, 1)])], [(40, [(.ofNat 0, [(.ofNat 1, 0)]), (.ofNat 0, [(.ofNat 1, 4)])])])), (.ofNat 940, [(.negSucc 0, 4)]))], [(0, false)], [(0, [[25, 26]]), (11, [[27]]), (39, [[79, 80]]), (52, [[28, 29, 30, 81]]), (92, [[31]]), (100, [[32]]), (119, [[35, 36]]), (154, [[78]]), (164, [[32]]), (169, [[33, 82, 185], [34]])], [], [(102, [27]), (120, [67]), (131, [68]), (148, [69]), (166, [27])], [])
theorem gK70 : cChk 70 gCT gRU gC70 0 gH70 3000 = true := by decide +kernel
end CkChk3
