section CkChk32
noncomputable def gH356 : sHt := ([], [], [], [], [(5, [344]), (13, [114]), (21, [355])], [])
theorem gK356 : cChk 356 gCT gRU gC356 0 gH356 3000 = true := by decide +kernel
noncomputable def gH357 : sHt := ([], [], [(69, [[261]])], [], [], [])
theorem gK357 : cChk 357 gCT gRU gC357 0 gH357 3000 = true := by decide +kernel
noncomputable def gH358 : sHt := ([], [], [], [], [(5, [344]), (13, [114]), (21, [357])], [])
theorem gK358 : cChk 358 gCT gRU gC358 0 gH358 3000 = true := by decide +kernel
noncomputable def gH359 : sHt := ([], [], [], [], [(41, [356, 358]), (48, [84])], [])
theorem gK359 : cChk 359 gCT gRU gC359 0 gH359 3000 = true := by decide +kernel
noncomputable def gH360 : sHt := ([], [], [(69, [[262]])], [], [], [])
theorem gK360 : cChk 360 gCT gRU gC360 0 gH360 3000 = true := by decide +kernel
noncomputable def gH361 : sHt := ([], [], [], [], [(5, [344]), (13, [114]), (21, [360])], [])
theorem gK361 : cChk 361 gCT gRU gC361 0 gH361 3000 = true := by decide +kernel
noncomputable def gH362 : sHt := ([], [], [(69, [[263]])], [], [], [])
theorem gK362 : cChk 362 gCT gRU gC362 0 gH362 3000 = true := by decide +kernel
noncomputable def gH363 : sHt := ([], [], [], [], [(5, [344]), (13, [114]), (21, [362])], [])
theorem gK363 : cChk 363 gCT gRU gC363 0 gH363 3000 = true := by decide +kernel
noncomputable def gH364 : sHt := ([], [], [], [], [(41, [361, 363]), (48, [84])], [])
theorem gK364 : cChk 364 gCT gRU gC364 0 gH364 3000 = true := by decide +kernel
noncomputable def gH365 : sHt := ([], [], [], [], [], [])
theorem gK365 : cChk 365 gCT gRU gC365 0 gH365 3000 = true := by decide +kernel
noncomputable def gH366 : sHt := ([], [], [(30, [[265, 266, 267, 268]])], [], [(17, [0]), (18, [0])], [])
theorem gK366 : cChk 366 gCT gRU gC366 1 gH366 3000 = true := by decide +kernel
noncomputable def gH367 : sHt := ([], [], [(30, [[265, 266, 267, 268]])], [], [(17, [0]), (18, [0])], [])
theorem gK367 : cChk 367 gCT gRU gC367 1 gH367 3000 = true := by decide +kernel
noncomputable def gH368 : sHt := ([], [], [(30, [[265, 266, 267, 268]])], [], [(17, [0]), (18, [0])], [])
theorem gK368 : cChk 368 gCT gRU gC368 1 gH368 3000 = true := by decide +kernel
noncomputable def gH369 : sHt := ([], [], [(30, [[265, 266, 267, 268]])], [], [(17, [0]), (18, [0])], [])
theorem gK369 : cChk 369 gCT gRU gC369 1 gH369 3000 = true := by decide +kernel
noncomputable def gH370 : sHt := ([], [], [(30, [[265, 266, 267, 268]])], [], [(17, [0]), (18, [0])], [])
theorem gK370 : cChk 370 gCT gRU gC370 1 gH370 3000 = true := by decide +kernel
noncomputable def gH371 : sHt := ([], [], [(0, [[264]]), (25, [[269]]), (30, [[270]]), (35, [[271]]), (41, [[272]]), (47, [[273], [274]])], [], [(22, [366]), (27, [367]), (32, [368]), (38, [369]), (44, [370])], [])
theorem gK371 : cChk 371 gCT gRU gC371 0 gH371 3000 = true := by decide +kernel
noncomputable def gH372 : sHt := ([], [], [], [], [], [])
theorem gK372 : cChk 372 gCT gRU gC372 0 gH372 3000 = true := by decide +kernel
noncomputable def gH373 : sHt := ([], [], [], [], [], [])
theorem gK373 : cChk 373 gCT gRU gC373 0 gH373 3000 = true := by decide +kernel
noncomputable def gH374 : sHt := ([], [], [(24, [[283]])], [], [(23, [0])], [])
theorem gK374 : cChk 374 gCT gRU gC374 0 gH374 3000 = true := by decide +kernel
noncomputable def gH375 : sHt := ([], [], [(0, [[298]])], [], [], [])
theorem gK375 : cChk 375 gCT gRU gC375 0 gH375 3000 = true := by decide +kernel
noncomputable def gH376 : sHt := ([], [], [(0, [[299]])], [], [], [])
theorem gK376 : cChk 376 gCT gRU gC376 0 gH376 3000 = true := by decide +kernel
noncomputable def gH377 : sHt := ([(181, ((22, [(0, .ofNat 0, .ofNat 939), (1, .ofNat 1, .ofNat 940), (2, .ofNat 1, .ofNat 940), (3, .ofNat 0, .ofNat 26), (4, .ofNat 0, .ofNat 2000), (5, .negSucc 0, .ofNat 99), (6, .negSucc 0, .ofNat 99), (7, .negSucc 0, .ofNat 99), (8, .negSucc 0, .ofNat 99), (9, .ofNat 0, .ofNat 940), (10, .ofNat 0, .ofNat 940), (11, .ofNat 48, .ofNat 122), (12, .ofNat 0, .ofNat 1), (13, .ofNat 0, .ofNat 1), (14, .ofNat 0, .ofNat 814), (15, .ofNat 0, .ofNat 72057594037927802), (16, .ofNat 0, .ofNat 940), (17, .ofNat 0, .ofNat 939), (18, .ofNat 0, .ofNat 940), (19, .ofNat 0, .ofNat 939), (20, .ofNat 48, .ofNat 122), (21, .ofNat 48, .ofNat 122)], [(.ofNat 1, [(.ofNat 1, 0), (.negSucc 0, 1)]), (.ofNat 0, [(.ofNat 1, 0), (.negSucc 0, 18)])], []), [(94, .ofNat 273, []), (1, .ofNat 0, [(.ofNat 1, 11)]), (1, .ofNat 0, [(.ofNat 1, 12)]), (1, .ofNat 0, [(.ofNat 1, 13)])], ([((78, .ofNat 273, []), (.ofNat 14, []), 1, .ofNat 0, [(.ofNat 1, 14)]), ((78, .ofNat 273, []), (.ofNat 17, []), 5, .ofNat 0, [(.ofNat 1, 15)]), ((78, .ofNat 273, []), (.ofNat 13, []), 1, .ofNat 0, [(.ofNat 1, 16)]), ((78, .ofNat 273, []), (.ofNat 12, []), 1, .ofNat 0, [(.ofNat 1, 17)]), ((78, .ofNat 273, []), (.ofNat 5, []), 1, .ofNat 0, [(.ofNat 1, 2)]), ((78, .ofNat 273, []), (.ofNat 3, []), 1, .ofNat 0, [(.ofNat 1, 1)]), ((78, .ofNat 273, []), (.ofNat 4, []), 1, .ofNat 0, [(.ofNat 1, 18)])], [(118, [(.ofNat 0, [(.ofNat 1, 0)]), (.ofNat 0, [(.ofNat 1, 3)]), (.ofNat 0, [(.ofNat 1, 4)]), (.ofNat 0, [(.ofNat 1, 5)]), (.ofNat 0, [(.ofNat 1, 6)]), (.ofNat 0, [(.ofNat 1, 7)]), (.ofNat 0, [(.ofNat 1, 8)]), (.ofNat 0, [(.ofNat 1, 9)]), (.ofNat 0, [(.ofNat 1, 10)])]), (109, [(.ofNat 0, [(.ofNat 1, 0)]), (.ofNat 0, [(.ofNat 1, 17)])]), (113, [(.ofNat 0, [(.ofNat 1, 19)]), (.ofNat 0, [(.ofNat 1, 20)])]), (110, [(.ofNat 0, [(.ofNat 1, 0)]), (.ofNat 0, [(.ofNat 1, 17)])]), (112, [(.ofNat 0, [(.ofNat 1, 19)]), (.ofNat 0, [(.ofNat 1, 21)])]), (111, [(.ofNat 0, [(.ofNat 1, 0)]), (.ofNat 0, [(.ofNat 1, 17)])]), (114, [(.ofNat 0, [(.ofNat 1, 17)]), (.ofNat 0, [(.ofNat 1, 18)]), (.ofNat 0, [(.ofNat 1, 16)]), (.ofNat 0, [(.ofNat 1, 12)]), (.ofNat 0, [(.ofNat 1, 13)]), (.ofNat 0, [(.ofNat 1, 14)]), (.ofNat 0, [(.ofNat 1, 15)])])])), (.ofNat 941, [(.negSucc 0, 16)])), (0, ((13, [(0, .ofNat 0, .ofNat 939), (1, .ofNat 1, .ofNat 940), (2, .ofNat 0, .ofNat 940), (3, .ofNat 0, .ofNat 26), (4, .ofNat 0, .ofNat 2000), (5, .negSucc 0, .ofNat 99), (6, .negSucc 0, .ofNat 99), (7, .negSucc 0, .ofNat 99), (8, .negSucc 0, .ofNat 99), (9, .ofNat 0, .ofNat 940), (10, .ofNat 0, .ofNat 940), (11, .ofNat 1, .ofNat 940), (12, .ofNat 10, .ofNat 32)], [(.ofNat 1, [(.ofNat 1, 0), (.negSucc 0, 1)]), (.ofNat 0, [(.ofNat 1, 0), (.negSucc 0, 11)])], []), [(94, .ofNat 273, []), (0, .ofNat 0, []), (0, .ofNat 0, []), (0, .ofNat 0, [])], ([((78, .ofNat 273, []), (.ofNat 4, []), 1, .ofNat 0, [(.ofNat 1, 11)]), ((78, .ofNat 273, []), (.ofNat 5, []), 1, .ofNat 0, [(.ofNat 1, 2)]), ((78, .ofNat 273, []), (.ofNat 3, []), 1, .ofNat 0, [(.ofNat 1, 1)])], [(118, [(.ofNat 0, [(.ofNat 1, 0)]), (.ofNat 0, [(.ofNat 1, 3)]), (.ofNat 0, [(.ofNat 1, 4)]), (.ofNat 0, [(.ofNat 1, 5)]), (.ofNat 0, [(.ofNat 1, 6)]), (.ofNat 0, [(.ofNat 1, 7)]), (.ofNat 0, [(.ofNat 1, 8)]), (.ofNat 0, [(.ofNat 1, 9)]), (.ofNat 0, [(.ofNat 1, 10)])]), (112, [(.negSucc 0, [(.ofNat 1, 11)]), (.ofNat 0, [(.ofNat 1, 12)])]), (113, [(.negSucc 0, [(.ofNat 1, 11)]), (.ofNat 0, [(.ofNat 1, 12)])]), (109, [(.ofNat 0, [(.ofNat 1, 0)]), (.ofNat 0, [(.ofNat 1, 11)])])])), (.ofNat 1881, [(.negSucc 0, 11)]))], [(0, false), (181, false)], [(0, [[281, 282]]), (4, [[284, 285], [286]]), (13, [[284, 285]]), (18, [[309, 310]]), (31, [[287, 288, 289, 290]]), (66, [[291]]), (79, [[292], [293]]), (84, [[284, 285]]), (89, [[294]]), (94, [[292], [293]]), (95, [[295, 296], [297]]), (148, [[300, 301, 302, 303, 304, 305, 306]]), (163, [[292], [293]]), (169, [[307, 308]]), (181, [[311]]), (185, [[284, 285]]), (195, [[284, 285]]), (201, [[312], [313], [314], [315], [316]]), (209, [[284]]), (243, [[284]]), (268, [[284]]), (285, [[317], [318, 319, 320, 325, 326, 327, 333, 334, 335, 336, 337, 338, 339, 340, 341, 342, 343, 344]]), (298, [[321, 322, 328, 329]]), (336, [[323, 324, 330, 331, 332], [292], [293]])], [], [(1, [374]), (10, [374]), (81, [374]), (96, [375]), (103, [376]), (165, [375]), (182, [374]), (185, [375]), (192, [374]), (195, [376]), (206, [374]), (209, [375]), (240, [374]), (265, [374])], [])
theorem gK377 : cChk 377 gCT gRU gC377 3 gH377 3000 = true := by decide +kernel
end CkChk32
