section CkChk22
noncomputable def gH288 : sHt := ([(13, ((4, [(1, .ofNat 0, .ofNat 40), (2, .ofNat 0, .ofNat 940), (3, .ofNat 1, .ofNat 4)], [], []), [(43, .ofNat 52, []), (56, .ofNat 173, []), (18, .ofNat 0, [(.ofNat 1, 0)]), (1, .ofNat 9, []), (1, .ofNat 0, []), (1, .ofNat 0, []), (0, .ofNat 0, [])], ([((40, .ofNat 173, []), (.ofNat 10, []), 1, .ofNat 0, [(.ofNat 1, 2)]), ((40, .ofNat 173, []), (.ofNat 9, []), 1, .ofNat 0, [(.ofNat 1, 3)]), ((40, .ofNat 173, []), (.ofNat 1, []), 17, .ofNat 1, []), ((27, .ofNat 52, []), (.ofNat 2, []), 1, .ofNat 0, [(.ofNat 1, 1)])], [(1, [(.ofNat 0, [(.ofNat 1, 1)])])])), (.ofNat 0, []))], [(13, false)], [], [], [(4, [287])], [])
theorem gK288 : cChk 288 gCT gRU gC288 3 gH288 3000 = true := by decide +kernel
noncomputable def gH289 : sHt := ([], [], [], [], [(1, [34]), (9, [220]), (35, [27]), (58, [27])], [])
theorem gK289 : cChk 289 gCT gRU gC289 2 gH289 3000 = true := by decide +kernel
noncomputable def gH290 : sHt := ([(13, ((3, [(1, .ofNat 0, .ofNat 40), (2, .ofNat 1, .ofNat 4)], [], []), [(43, .ofNat 52, []), (56, .ofNat 173, []), (18, .ofNat 0, [(.ofNat 1, 0)]), (1, .ofNat 9, []), (1, .ofNat 0, []), (1, .ofNat 0, []), (0, .ofNat 0, [])], ([((40, .ofNat 173, []), (.ofNat 1, []), 17, .ofNat 1, []), ((40, .ofNat 173, []), (.ofNat 9, []), 1, .ofNat 0, [(.ofNat 1, 2)]), ((27, .ofNat 52, []), (.ofNat 2, []), 1, .ofNat 0, [(.ofNat 1, 1)])], [])), (.ofNat 0, []))], [(13, false)], [], [], [(4, [289])], [])
theorem gK290 : cChk 290 gCT gRU gC290 3 gH290 3000 = true := by decide +kernel
noncomputable def gH291 : sHt := ([], [], [(39, [[251, 252, 253]])], [], [], [])
theorem gK291 : cChk 291 gCT gRU gC291 0 gH291 3000 = true := by decide +kernel
noncomputable def gH292 : sHt := ([], [], [(39, [[251, 252, 253]])], [], [], [])
theorem gK292 : cChk 292 gCT gRU gC292 0 gH292 3000 = true := by decide +kernel
noncomputable def gH293 : sHt := ([], [], [(39, [[251, 252]])], [], [], [])
theorem gK293 : cChk 293 gCT gRU gC293 0 gH293 3000 = true := by decide +kernel
noncomputable def gH294 : sHt := ([], [], [(39, [[251, 252, 253]])], [], [], [])
theorem gK294 : cChk 294 gCT gRU gC294 0 gH294 3000 = true := by decide +kernel
noncomputable def gH295 : sHt := ([], [], [(39, [[251, 252, 253]])], [], [], [])
theorem gK295 : cChk 295 gCT gRU gC295 0 gH295 3000 = true := by decide +kernel
noncomputable def gH296 : sHt := ([], [], [(39, [[251]])], [], [], [])
theorem gK296 : cChk 296 gCT gRU gC296 0 gH296 3000 = true := by decide +kernel
noncomputable def gH297 : sHt := ([], [], [(39, [[251, 252, 253]])], [], [], [])
theorem gK297 : cChk 297 gCT gRU gC297 0 gH297 3000 = true := by decide +kernel
noncomputable def gH298 : sHt := ([], [], [(39, [[251]])], [], [], [])
theorem gK298 : cChk 298 gCT gRU gC298 0 gH298 3000 = true := by decide +kernel
noncomputable def gH299 : sHt := ([], [], [(0, [[249]])], [], [(17, [202]), (35, [244]), (53, [241]), (68, [195]), (80, [224, 228, 231, 234, 238]), (89, [225, 229, 232, 235, 239]), (98, [226, 230, 233, 236, 240]), (106, [20, 27]), (113, [32, 199]), (124, [292, 293, 294, 295, 296, 297, 298])], [])
theorem gK299 : cChk 299 gCT gRU gC299 2 gH299 3000 = true := by decide +kernel
noncomputable def gH300 : sHt := ([], [], [], [], [(1, [196]), (9, [213]), (35, [20]), (58, [20]), (85, [195]), (94, [288, 290]), (100, [216, 217, 218, 219]), (108, [27]), (122, [195]), (131, [287, 289]), (139, [291]), (148, [299]), (159, [195])], [])
theorem gK300 : cChk 300 gCT gRU gC300 2 gH300 3000 = true := by decide +kernel
end CkChk22
