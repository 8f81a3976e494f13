section CkChk27
noncomputable def gH401 : sHt := ([(48, ((7, [(0, .ofNat 0, .ofNat 2147483647), (1, .ofNat 0, .ofNat 40), (2, .negSucc 2147483647, .ofNat 2147483647), (3, .negSucc 2147483647, .ofNat 2147483647), (4, .ofNat 0, .ofNat 14), (5, .ofNat 0, .ofNat 4)], [], []), [(16, .ofNat 0, []), (1, .ofNat 0, [(.ofNat 1, 0)]), (1, .ofNat 0, [(.ofNat 1, 2)]), (1, .ofNat 0, [(.ofNat 1, 3)]), (1, .ofNat 0, [(.ofNat 1, 4)])], ([((40, .ofNat 173, []), (.ofNat 9, []), 1, .ofNat 0, [(.ofNat 1, 5)]), ((0, .ofNat 0, []), (.ofNat 8, []), 31, .ofNat 0, [(.ofNat 1, 6)]), ((32, .ofNat 57, []), (.ofNat 0, []), 1, .ofNat 1, []), ((0, .ofNat 0, []), (.ofNat 11, []), 43, .ofNat 52, []), ((0, .ofNat 0, []), (.ofNat 10, []), 48, .ofNat 57, []), ((32, .ofNat 57, []), (.ofNat 2, []), 1, .ofNat 0, [(.ofNat 1, 1)]), ((0, .ofNat 0, []), (.ofNat 7, []), 114, .ofNat 15, []), ((0, .ofNat 0, []), (.ofNat 6, []), 18, .ofNat 2, [])], [(2, [(.ofNat 0, [(.ofNat 1, 1)])])])), (.ofNat 14, [(.negSucc 0, 4)]))], [(48, false)], [], [], [(29, [400]), (39, [110])], [])
theorem gK401 : cChk 401 gCT gRU gC401 3 gH401 3000 = true := by decide +kernel
noncomputable def gH402 : sHt := ([], [], [], [], [], [])
theorem gK402 : cChk 402 gCT gRU gC402 0 gH402 3000 = true := by decide +kernel
noncomputable def gH403 : sHt := ([], [], [(69, [[455]])], [], [], [])
theorem gK403 : cChk 403 gCT gRU gC403 0 gH403 3000 = true := by decide +kernel
noncomputable def gH404 : sHt := ([], [], [], [], [(5, [402]), (13, [114]), (21, [403])], [])
theorem gK404 : cChk 404 gCT gRU gC404 0 gH404 3000 = true := by decide +kernel
noncomputable def gH405 : sHt := ([], [], [], [], [], [])
theorem gK405 : cChk 405 gCT gRU gC405 0 gH405 3000 = true := by decide +kernel
noncomputable def gH406 : sHt := ([], [], [(69, [[458]])], [], [], [])
theorem gK406 : cChk 406 gCT gRU gC406 0 gH406 3000 = true := by decide +kernel
noncomputable def gH407 : sHt := ([], [], [], [], [(5, [405]), (13, [114]), (21, [406])], [])
theorem gK407 : cChk 407 gCT gRU gC407 0 gH407 3000 = true := by decide +kernel
noncomputable def gH408 : sHt := ([], [], [(32, [[456, 457]])], [], [(29, [404, 407])], [])
theorem gK408 : cChk 408 gCT gRU gC408 0 gH408 3000 = true := by decide +kernel
noncomputable def gH409 : sHt := ([], [], [(69, [[459]])], [], [], [])
theorem gK409 : cChk 409 gCT gRU gC409 0 gH409 3000 = true := by decide +kernel
noncomputable def gH410 : sHt := ([], [], [], [], [(5, [402]), (13, [114]), (21, [409])], [])
theorem gK410 : cChk 410 gCT gRU gC410 0 gH410 3000 = true := by decide +kernel
noncomputable def gH411 : sHt := ([], [], [(69, [[460]])], [], [], [])
theorem gK411 : cChk 411 gCT gRU gC411 0 gH411 3000 = true := by decide +kernel
noncomputable def gH412 : sHt := ([], [], [], [], [(5, [405]), (13, [114]), (21, [411])], [])
theorem gK412 : cChk 412 gCT gRU gC412 0 gH412 3000 = true := by decide +kernel
noncomputable def gH413 : sHt := ([], [], [(32, [[456, 457]])], [], [(29, [410, 412])], [])
theorem gK413 : cChk 413 gCT gRU gC413 0 gH413 3000 = true := by decide +kernel
noncomputable def gH414 : sHt := ([], [], [], [], [], [])
theorem gK414 : cChk 414 gCT gRU gC414 0 gH414 3000 = true := by decide +kernel
noncomputable def gH415 : sHt := ([], [], [(69, [[461]])], [], [], [])
theorem gK415 : cChk 415 gCT gRU gC415 0 gH415 3000 = true := by decide +kernel
noncomputable def gH416 : sHt := ([], [], [], [], [(5, [414]), (13, [114]), (21, [415])], [])
theorem gK416 : cChk 416 gCT gRU gC416 0 gH416 3000 = true := by decide +kernel
noncomputable def gH417 : sHt := ([], [], [], [], [], [])
theorem gK417 : cChk 417 gCT gRU gC417 0 gH417 3000 = true := by decide +kernel
noncomputable def gH418 : sHt := ([], [], [(69, [[464]])], [], [], [])
theorem gK418 : cChk 418 gCT gRU gC418 0 gH418 3000 = true := by decide +kernel
noncomputable def gH419 : sHt := ([], [], [], [], [(5, [417]), (13, [114]), (21, [418])], [])
theorem gK419 : cChk 419 gCT gRU gC419 0 gH419 3000 = true := by decide +kernel
noncomputable def gH420 : sHt := ([], [], [(44, [[462, 463]])], [], [(41, [416, 419]), (48, [84])], [])
theorem gK420 : cChk 420 gCT gRU gC420 0 gH420 3000 = true := by decide +kernel
noncomputable def gH421 : sHt := ([], [], [(69, [[465]])], [], [], [])
theorem gK421 : cChk 421 gCT gRU gC421 0 gH421 3000 = true := by decide +kernel
noncomputable def gH422 : sHt := ([], [], [], [], [(5, [414]), (13, [114]), (21, [421])], [])
theorem gK422 : cChk 422 gCT gRU gC422 0 gH422 3000 = true := by decide +kernel
noncomputable def gH423 : sHt := ([], [], [(69, [[466]])], [], [], [])
theorem gK423 : cChk 423 gCT gRU gC423 0 gH423 3000 = true := by decide +kernel
noncomputable def gH424 : sHt := ([], [], [], [], [(5, [417]), (13, [114]), (21, [423])], [])
theorem gK424 : cChk 424 gCT gRU gC424 0 gH424 3000 = true := by decide +kernel
noncomputable def gH425 : sHt := ([], [], [(44, [[462, 463]])], [], [(41, [422, 424]), (48, [84])], [])
theorem gK425 : cChk 425 gCT gRU gC425 0 gH425 3000 = true := by decide +kernel
noncomputable def gH426 : sHt := ([], [], [], [], [], [])
theorem gK426 : cChk 426 gCT gRU gC426 0 gH426 3000 = true := by decide +kernel
noncomputable def gH427 : sHt := ([], [], [(43, [[1, 2, 3, 4]])], [], [(27, [0]), (31, [0])], [])
theorem gK427 : cChk 427 gCT gRU gC427 1 gH427 3000 = true := by decide +kernel
noncomputable def gH428 : sHt := ([], [], [(43, [[1, 2, 3, 4]])], [], [(27, [0]), (31, [0])], [])
theorem gK428 : cChk 428 gCT gRU gC428 1 gH428 3000 = true := by decide +kernel
noncomputable def gH429 : sHt := ([], [], [(43, [[1, 2, 3, 4]])], [], [(27, [0]), (31, [0])], [])
theorem gK429 : cChk 429 gCT gRU gC429 1 gH429 3000 = true := by decide +kernel
noncomputable def gH430 : sHt := ([], [], [(43, [[1, 2, 3, 4]])], [], [(27, [0]), (31, [0])], [])
theorem gK430 : cChk 430 gCT gRU gC430 1 gH430 3000 = true := by decide +kernel
noncomputable def gH431 : sHt := ([], [], [(43, [[1, 2, 3, 4]])], [], [(27, [0]), (31, [0])], [])
theorem gK431 : cChk 431 gCT gRU gC431 1 gH431 3000 = true := by decide +kernel
noncomputable def gH432 : sHt := ([], [], [(0, [[0]]), (20, [[5]]), (25, [[6]]), (30, [[7]]), (36, [[8]]), (42, [[9], [10]])], [], [(17, [427]), (22, [428]), (27, [429]), (33, [430]), (39, [431])], [])
theorem gK432 : cChk 432 gCT gRU gC432 0 gH432 3000 = true := by decide +kernel
noncomputable def gH433 : sHt := ([], [], [], [], [], [])
theorem gK433 : cChk 433 gCT gRU gC433 0 gH433 3000 = true := by decide +kernel
noncomputable def gH434 : sHt := ([], [], [], [], [(13, [7])], [])
theorem gK434 : cChk 434 gCT gRU gC434 0 gH434 3000 = true := by decide +kernel
noncomputable def gH435 : sHt := ([(6, ((1, [(0, .ofNat 0, .ofNat 12)], [], []), [(19, .ofNat 3, []), (5, .ofNat 0, []), (0, .ofNat 0, []), (1, .ofNat 0, [(.ofNat 1, 0)]), (1, .ofNat 12, [])], ([((2, .ofNat 2, []), (.ofNat 7, []), 19, .ofNat 3, []), ((43, .ofNat 176, []), (.ofNat 1, []), 18, .ofNat 2, [])], [(100, []), (101, [(.ofNat 0, [(.ofNat 1, 0)])])])), (.ofNat 12, [(.negSucc 0, 0)]))], [(6, false)], [(0, [[467]]), (16, [[468]]), (22, [[469]])], [], [], [])
theorem gK435 : cChk 435 gCT gRU gC435 2 gH435 3000 = true := by decide +kernel
noncomputable def gH436 : sHt := ([(5, ((2, [(1, .ofNat 0, .ofNat 100)], [], []), [(20, .ofNat 0, [(.ofNat 1, 0)]), (1, .negSucc 0, []), (1, .ofNat 0, [(.ofNat 1, 1)]), (1, .ofNat 100, [])], ([((2, .ofNat 2, []), (.ofNat 8, []), 20, .ofNat 0, [(.ofNat 1, 0)]), ((43, .ofNat 176, []), (.ofNat 1, []), 18, .ofNat 2, [])], [(100, []), (103, [(.ofNat 0, [(.ofNat 1, 1)])])])), (.ofNat 100, [(.negSucc 0, 1)]))], [(5, false)], [(0, [[470]]), (14, [[471]]), (20, [[472]])], [], [], [])
theorem gK436 : cChk 436 gCT gRU gC436 2 gH436 3000 = true := by decide +kernel
noncomputable def gH437 : sHt := ([(5, ((2, [(1, .ofNat 0, .ofNat 100)], [], []), [(21, .ofNat 0, [(.ofNat 1, 0)]), (1, .negSucc 0, []), (1, .ofNat 0, [(.ofNat 1, 1)]), (1, .ofNat 100, [])], ([((2, .ofNat 2, []), (.ofNat 9, []), 21, .ofNat 0, [(.ofNat 1, 0)]), ((43, .ofNat 176, []), (.ofNat 1, []), 18, .ofNat 2, [])], [(100, []), (105, [(.ofNat 0, [(.ofNat 1, 1)])])])), (.ofNat 100, [(.negSucc 0, 1)]))], [(5, false)], [(0, [[473]]), (14, [[474]]), (20, [[475]])], [], [], [])
theorem gK437 : cChk 437 gCT gRU gC437 2 gH437 3000 = true := by decide +kernel
end CkChk27
