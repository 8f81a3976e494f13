section CkChk31
noncomputable def gH336 : sHt := ([(6, ((7, [(0, .ofNat 0, .ofNat 39), (3, .ofNat 1, .ofNat 40), (4, .ofNat 0, .ofNat 4), (5, .negSucc 2147483647, .ofNat 2147483647), (6, .ofNat 0, .ofNat 14)], [(.ofNat 1, [(.ofNat 1, 0), (.negSucc 0, 3)])], []), [(43, .ofNat 52, []), (1, .ofNat 0, [(.ofNat 1, 0)]), (18, .ofNat 0, [(.ofNat 1, 1)]), (31, .ofNat 0, [(.ofNat 1, 2)]), (1, .ofNat 0, [(.ofNat 1, 5)]), (1, .ofNat 0, [(.ofNat 1, 6)])], ([((40, .ofNat 173, []), (.ofNat 9, []), 1, .ofNat 0, [(.ofNat 1, 4)]), ((27, .ofNat 52, []), (.ofNat 2, []), 1, .ofNat 0, [(.ofNat 1, 3)])], [(1, [(.ofNat 0, [(.ofNat 1, 3)])])])), (.ofNat 14, [(.negSucc 0, 6)]))], [(6, false)], [], [], [(21, [335])], [])
theorem gK336 : cChk 336 gCT gRU gC336 2 gH336 3000 = true := by decide +kernel
noncomputable def gH337 : sHt := ([(15, ((8, [(2, .ofNat 0, .ofNat 40), (3, .ofNat 0, .ofNat 4), (4, .negSucc 2147483647, .ofNat 2147483647), (5, .ofNat 0, .ofNat 40), (6, .ofNat 0, .ofNat 40), (7, .ofNat 0, .ofNat 14)], [], []), [(43, .ofNat 52, []), (18, .ofNat 0, [(.ofNat 1, 0)]), (31, .ofNat 0, [(.ofNat 1, 1)]), (1, .ofNat 0, [(.ofNat 1, 4)]), (1, .ofNat 0, [(.ofNat 1, 5)]), (1, .ofNat 0, [(.ofNat 1, 6)])], ([((15, .ofNat 0, [(.ofNat 1, 1)]), (.ofNat 1, []), 1, .ofNat 0, [(.ofNat 1, 7)]), ((40, .ofNat 173, []), (.ofNat 9, []), 1, .ofNat 0, [(.ofNat 1, 3)]), ((27, .ofNat 52, []), (.ofNat 2, []), 1, .ofNat 0, [(.ofNat 1, 2)])], [(1, [(.ofNat 0, [(.ofNat 1, 2)])])])), (.ofNat 40, [(.negSucc 0, 6)]))], [(15, false)], [], [], [(171, [336])], [])
theorem gK337 : cChk 337 gCT gRU gC337 3 gH337 3000 = true := by decide +kernel
noncomputable def gH338 : sHt := ([(48, ((8, [(0, .ofNat 0, .ofNat 2147483647), (1, .ofNat 0, .ofNat 40), (2, .negSucc 2147483647, .ofNat 2147483647), (3, .negSucc 2147483647, .ofNat 2147483647), (4, .ofNat 0, .ofNat 14), (5, .ofNat 0, .ofNat 4)], [], []), [(16, .ofNat 0, []), (1, .ofNat 0, [(.ofNat 1, 0)]), (1, .ofNat 0, [(.ofNat 1, 2)]), (1, .ofNat 0, [(.ofNat 1, 3)]), (1, .ofNat 0, [(.ofNat 1, 4)])], ([((40, .ofNat 173, []), (.ofNat 9, []), 1, .ofNat 0, [(.ofNat 1, 5)]), ((0, .ofNat 0, []), (.ofNat 8, []), 31, .ofNat 0, [(.ofNat 1, 6)]), ((0, .ofNat 0, []), (.ofNat 6, []), 18, .ofNat 0, [(.ofNat 1, 7)]), ((27, .ofNat 52, []), (.ofNat 0, []), 1, .ofNat 1, []), ((0, .ofNat 0, []), (.ofNat 11, []), 48, .ofNat 57, []), ((0, .ofNat 0, []), (.ofNat 10, []), 43, .ofNat 52, []), ((27, .ofNat 52, []), (.ofNat 2, []), 1, .ofNat 0, [(.ofNat 1, 1)])], [(1, [(.ofNat 0, [(.ofNat 1, 1)])])])), (.ofNat 14, [(.negSucc 0, 4)]))], [(48, false)], [], [], [(29, [337]), (39, [110])], [])
theorem gK338 : cChk 338 gCT gRU gC338 3 gH338 3000 = true := by decide +kernel
noncomputable def gH339 : sHt := ([], [], [], [], [], [])
theorem gK339 : cChk 339 gCT gRU gC339 0 gH339 3000 = true := by decide +kernel
noncomputable def gH340 : sHt := ([], [], [(151, [[255]])], [], [(91, [90]), (103, [122]), (161, [92]), (174, [339]), (187, [339]), (196, [94]), (200, [339]), (207, [339])], [])
theorem gK340 : cChk 340 gCT gRU gC340 0 gH340 3000 = true := by decide +kernel
noncomputable def gH341 : sHt := ([(6, ((7, [(0, .ofNat 0, .ofNat 39), (3, .ofNat 1, .ofNat 40), (4, .ofNat 0, .ofNat 4), (5, .negSucc 2147483647, .ofNat 2147483647), (6, .ofNat 0, .ofNat 14)], [(.ofNat 1, [(.ofNat 1, 0), (.negSucc 0, 3)])], []), [(48, .ofNat 57, []), (1, .ofNat 0, [(.ofNat 1, 0)]), (18, .ofNat 0, [(.ofNat 1, 1)]), (31, .ofNat 0, [(.ofNat 1, 2)]), (1, .ofNat 0, [(.ofNat 1, 5)]), (1, .ofNat 0, [(.ofNat 1, 6)])], ([((40, .ofNat 173, []), (.ofNat 9, []), 1, .ofNat 0, [(.ofNat 1, 4)]), ((32, .ofNat 57, []), (.ofNat 2, []), 1, .ofNat 0, [(.ofNat 1, 3)])], [(2, [(.ofNat 0, [(.ofNat 1, 3)])])])), (.ofNat 14, [(.negSucc 0, 6)]))], [(6, false)], [], [], [(21, [340])], [])
theorem gK341 : cChk 341 gCT gRU gC341 2 gH341 3000 = true := by decide +kernel
noncomputable def gH342 : sHt := ([(15, ((8, [(2, .ofNat 0, .ofNat 40), (3, .ofNat 0, .ofNat 4), (4, .negSucc 2147483647, .ofNat 2147483647), (5, .ofNat 0, .ofNat 40), (6, .ofNat 0, .ofNat 40), (7, .ofNat 0, .ofNat 14)], [], []), [(48, .ofNat 57, []), (18, .ofNat 0, [(.ofNat 1, 0)]), (31, .ofNat 0, [(.ofNat 1, 1)]), (1, .ofNat 0, [(.ofNat 1, 4)]), (1, .ofNat 0, [(.ofNat 1, 5)]), (1, .ofNat 0, [(.ofNat 1, 6)])], ([((15, .ofNat 0, [(.ofNat 1, 1)]), (.ofNat 1, []), 1, .ofNat 0, [(.ofNat 1, 7)]), ((40, .ofNat 173, []), (.ofNat 9, []), 1, .ofNat 0, [(.ofNat 1, 3)]), ((32, .ofNat 57, []), (.ofNat 2, []), 1, .ofNat 0, [(.ofNat 1, 2)])], [(2, [(.ofNat 0, [(.ofNat 1, 2)])])])), (.ofNat 40, [(.negSucc 0, 6)]))], [(15, false)], [], [], [(171, [341])], [])
theorem gK342 : cChk 342 gCT gRU gC342 3 gH342 3000 = true := by decide +kernel
noncomputable def gH343 : sHt := ([(48, ((8, [(0, .ofNat 0, .ofNat 2147483647), (1, .ofNat 0, .ofNat 40), (2, .negSucc 2147483647, .ofNat 2147483647), (3, .negSucc 2147483647, .ofNat 2147483647), (4, .ofNat 0, .ofNat 14), (5, .ofNat 0, .ofNat 4)], [], []), [(16, .ofNat 0, []), (1, .ofNat 0, [(.ofNat 1, 0)]), (1, .ofNat 0, [(.ofNat 1, 2)]), (1, .ofNat 0, [(.ofNat 1, 3)]), (1, .ofNat 0, [(.ofNat 1, 4)])], ([((40, .ofNat 173, []), (.ofNat 9, []), 1, .ofNat 0, [(.ofNat 1, 5)]), ((0, .ofNat 0, []), (.ofNat 8, []), 31, .ofNat 0, [(.ofNat 1, 6)]), ((0, .ofNat 0, []), (.ofNat 6, []), 18, .ofNat 0, [(.ofNat 1, 7)]), ((32, .ofNat 57, []), (.ofNat 0, []), 1, .ofNat 1, []), ((0, .ofNat 0, []), (.ofNat 11, []), 43, .ofNat 52, []), ((0, .ofNat 0, []), (.ofNat 10, []), 48, .ofNat 57, []), ((32, .ofNat 57, []), (.ofNat 2, []), 1, .ofNat 0, [(.ofNat 1, 1)])], [(2, [(.ofNat 0, [(.ofNat 1, 1)])])])), (.ofNat 14, [(.negSucc 0, 4)]))], [(48, false)], [], [], [(29, [342]), (39, [110])], [])
theorem gK343 : cChk 343 gCT gRU gC343 3 gH343 3000 = true := by decide +kernel
noncomputable def gH344 : sHt := ([], [], [], [], [], [])
theorem gK344 : cChk 344 gCT gRU gC344 0 gH344 3000 = true := by decide +kernel
noncomputable def gH345 : sHt := ([], [], [(69, [[256]])], [], [], [])
theorem gK345 : cChk 345 gCT gRU gC345 0 gH345 3000 = true := by decide +kernel
noncomputable def gH346 : sHt := ([], [], [], [], [(5, [344]), (13, [114]), (21, [345])], [])
theorem gK346 : cChk 346 gCT gRU gC346 0 gH346 3000 = true := by decide +kernel
noncomputable def gH347 : sHt := ([], [], [(69, [[257]])], [], [], [])
theorem gK347 : cChk 347 gCT gRU gC347 0 gH347 3000 = true := by decide +kernel
noncomputable def gH348 : sHt := ([], [], [], [], [(5, [344]), (13, [114]), (21, [347])], [])
theorem gK348 : cChk 348 gCT gRU gC348 0 gH348 3000 = true := by decide +kernel
noncomputable def gH349 : sHt := ([], [], [], [], [(29, [346, 348])], [])
theorem gK349 : cChk 349 gCT gRU gC349 0 gH349 3000 = true := by decide +kernel
noncomputable def gH350 : sHt := ([], [], [(69, [[258]])], [], [], [])
theorem gK350 : cChk 350 gCT gRU gC350 0 gH350 3000 = true := by decide +kernel
noncomputable def gH351 : sHt := ([], [], [], [], [(5, [344]), (13, [114]), (21, [350])], [])
theorem gK351 : cChk 351 gCT gRU gC351 0 gH351 3000 = true := by decide +kernel
noncomputable def gH352 : sHt := ([], [], [(69, [[259]])], [], [], [])
theorem gK352 : cChk 352 gCT gRU gC352 0 gH352 3000 = true := by decide +kernel
noncomputable def gH353 : sHt := ([], [], [], [], [(5, [344]), (13, [114]), (21, [352])], [])
theorem gK353 : cChk 353 gCT gRU gC353 0 gH353 3000 = true := by decide +kernel
noncomputable def gH354 : sHt := ([], [], [], [], [(29, [351, 353])], [])
theorem gK354 : cChk 354 gCT gRU gC354 0 gH354 3000 = true := by decide +kernel
noncomputable def gH355 : sHt := ([], [], [(69, [[260]])], [], [], [])
theorem gK355 : cChk 355 gCT gRU gC355 0 gH355 3000 = true := by decide +kernel
end CkChk31
