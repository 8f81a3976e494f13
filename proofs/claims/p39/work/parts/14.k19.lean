section CkChk19
noncomputable def gH282 : sHt := ([], [], [], [], [(5, [278]), (13, [93]), (21, [281])], [])
theorem gK282 : cChk 282 gCT gRU gC282 0 gH282 3000 = true := by decide +kernel
noncomputable def gH283 : sHt := ([], [], [], [], [(29, [280, 282])], [])
theorem gK283 : cChk 283 gCT gRU gC283 0 gH283 3000 = true := by decide +kernel
noncomputable def gH284 : sHt := ([], [], [(69, [[31]])], [], [], [])
theorem gK284 : cChk 284 gCT gRU gC284 0 gH284 3000 = true := by decide +kernel
noncomputable def gH285 : sHt := ([], [], [], [], [(5, [278]), (13, [93]), (21, [284])], [])
theorem gK285 : cChk 285 gCT gRU gC285 0 gH285 3000 = true := by decide +kernel
noncomputable def gH286 : sHt := ([], [], [(69, [[32]])], [], [], [])
theorem gK286 : cChk 286 gCT gRU gC286 0 gH286 3000 = true := by decide +kernel
noncomputable def gH287 : sHt := ([], [], [], [], [(5, [278]), (13, [93]), (21, [286])], [])
theorem gK287 : cChk 287 gCT gRU gC287 0 gH287 3000 = true := by decide +kernel
noncomputable def gH288 : sHt := ([], [], [], [], [(29, [285, 287])], [])
theorem gK288 : cChk 288 gCT gRU gC288 0 gH288 3000 = true := by decide +kernel
noncomputable def gH289 : sHt := ([], [], [(69, [[33]])], [], [], [])
theorem gK289 : cChk 289 gCT gRU gC289 0 gH289 3000 = true := by decide +kernel
noncomputable def gH290 : sHt := ([], [], [], [], [(5, [278]), (13, [93]), (21, [289])], [])
theorem gK290 : cChk 290 gCT gRU gC290 0 gH290 3000 = true := by decide +kernel
noncomputable def gH291 : sHt := ([], [], [(69, [[34]])], [], [], [])
theorem gK291 : cChk 291 gCT gRU gC291 0 gH291 3000 = true := by decide +kernel
noncomputable def gH292 : sHt := ([], [], [], [], [(5, [278]), (13, [93]), (21, [291])], [])
theorem gK292 : cChk 292 gCT gRU gC292 0 gH292 3000 = true := by decide +kernel
noncomputable def gH293 : sHt := ([], [], [], [], [(41, [290, 292]), (48, [66])], [])
theorem gK293 : cChk 293 gCT gRU gC293 0 gH293 3000 = true := by decide +kernel
noncomputable def gH294 : sHt := ([], [], [(69, [[35]])], [], [], [])
theorem gK294 : cChk 294 gCT gRU gC294 0 gH294 3000 = true := by decide +kernel
noncomputable def gH295 : sHt := ([], [], [], [], [(5, [278]), (13, [93]), (21, [294])], [])
theorem gK295 : cChk 295 gCT gRU gC295 0 gH295 3000 = true := by decide +kernel
noncomputable def gH296 : sHt := ([], [], [(69, [[36]])], [], [], [])
theorem gK296 : cChk 296 gCT gRU gC296 0 gH296 3000 = true := by decide +kernel
noncomputable def gH297 : sHt := ([], [], [], [], [(5, [278]), (13, [93]), (21, [296])], [])
theorem gK297 : cChk 297 gCT gRU gC297 0 gH297 3000 = true := by decide +kernel
noncomputable def gH298 : sHt := ([], [], [], [], [(41, [295, 297]), (48, [66])], [])
theorem gK298 : cChk 298 gCT gRU gC298 0 gH298 3000 = true := by decide +kernel
noncomputable def gH299 : sHt := ([], [], [], [], [], [])
theorem gK299 : cChk 299 gCT gRU gC299 0 gH299 3000 = true := by decide +kernel
noncomputable def gH300 : sHt := ([], [], [], [], [], [])
theorem gK300 : cChk 300 gCT gRU gC300 1 gH300 3000 = true := by decide +kernel
noncomputable def gH301 : sHt := ([], [], [], [], [(22, [300]), (27, [300]), (32, [300]), (38, [300]), (44, [300])], [])
theorem gK301 : cChk 301 gCT gRU gC301 0 gH301 3000 = true := by decide +kernel
noncomputable def gH302 : sHt := ([], [], [], [], [], [])
theorem gK302 : cChk 302 gCT gRU gC302 0 gH302 3000 = true := by decide +kernel
noncomputable def gH303 : sHt := ([], [], [], [], [], [])
theorem gK303 : cChk 303 gCT gRU gC303 0 gH303 3000 = true := by decide +kernel
noncomputable def gH304 : sHt := ([], [], [], [], [], [])
theorem gK304 : cChk 304 gCT gRU gC304 0 gH304 3000 = true := by decide +kernel
noncomputable def gH305 : sHt := ([], [], [], [], [], [])
theorem gK305 : cChk 305 gCT gRU gC305 0 gH305 3000 = true := by decide +kernel
noncomputable def gH306 : sHt := ([], [], [], [], [], [])
theorem gK306 : cChk 306 gCT gRU gC306 0 gH306 3000 = true := by decide +kernel
noncomputable def gH307 : sHt := ([(0, ((3, [(0, .ofNat 0, .ofNat 939), (1, .ofNat 1, .ofNat 940), (2, .ofNat 1, .ofNat 940)], [(.ofNat 1, [(.ofNat 1, 0), (.negSucc 0, 1)]), (.ofNat 0, [(.ofNat 1, 0), (.negSucc 0, 2)])], []), [(94, .ofNat 273, []), (0, .ofNat 0, []), (0, .ofNat 0, []), (0, .ofNat 0, [])], ([((78, .ofNat 273, []), (.ofNat 4, []), 1, .ofNat 0, [(.ofNat 1, 2)]), ((78, .ofNat 273, []), (.ofNat 3, []), 1, .ofNat 0, [(.ofNat 1, 1)])], [])), (.ofNat 941, [(.negSucc 0, 2)])), (181, ((10, [(0, .ofNat 0, .ofNat 939), (1, .ofNat 1, .ofNat 940), (2, .ofNat 48, .ofNat 122), (3, .ofNat 0, .ofNat 1), (4, .ofNat 0, .ofNat 1), (6, .ofNat 1, .ofNat 940), (8, .ofNat 0, .ofNat 939), (9, .ofNat 0, .ofNat 940)], [(.ofNat 1, [(.ofNat 1, 0), (.negSucc 0, 1)]), (.ofNat 0, [(.ofNat 1, 0), (.negSucc 0, 8)]), (.ofNat 0, [(.ofNat 1, 0), (.negSucc 0, 9)])], []), [(94, .ofNat 273, []), (1, .ofNat 0, [(.ofNat 1, 2)]), (1, .ofNat 0, [(.ofNat 1, 3)]), (1, .ofNat 0, [(.ofNat 1, 4)])], ([((78, .ofNat 273, []), (.ofNat 14, []), 1, .ofNat 0, [(.ofNat 1, 5)]), ((78, .ofNat 273, []), (.ofNat 17, []), 4, .ofNat 0, []), ((78, .ofNat 273, []), (.ofNat 5, []), 1, .ofNat 0, [(.ofNat 1, 6)]), ((78, .ofNat 273, []), (.ofNat 13, []), 1, .ofNat 0, [(.ofNat 1, 7)]), ((78, .ofNat 273, []), (.ofNat 12, []), 1, .ofNat 0, [(.ofNat 1, 8)]), ((78, .ofNat 273, []), (.ofNat 3, []), 1, .ofNat 0, [(.ofNat 1, 1)]), ((78, .ofNat 273, []), (.ofNat 4, []), 1, .ofNat 0, [(.ofNat 1, 9)])], [])), (.ofNat 940, [(.negSucc 0, 9)]))], [(0, false), (181, false)], [], [], [(1, [304]), (10, [304]), (81, [304]), (96, [305]), (103, [306]), (165, [305]), (182, [304]), (185, [305]), (192, [304]), (195, [306]), (206, [304]), (209, [305]), (240, [304]), (265, [304])], [])
theorem gK307 : cChk 307 gCT gRU gC307 3 gH307 3000 = true := by decide +kernel
end CkChk19
