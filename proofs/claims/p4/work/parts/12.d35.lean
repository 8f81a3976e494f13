section CkChk35
noncomputable def gH456 : sHt := ([], [], [(8, [[386]])], [], [(10, [386])], [])
theorem gK456 : cChk 456 gCT gRU gC456 0 gH456 3000 = true := by decide +kernel
noncomputable def gH457 : sHt := ([], [], [], [], [(3, [456])], [])
theorem gK457 : cChk 457 gCT gRU gC457 0 gH457 3000 = true := by decide +kernel
noncomputable def gH458 : sHt := ([], [(72, false)], [(0, [[420, 421]])], [], [(10, [457])], [])
theorem gK458 : cChk 458 gCT gRU gC458 3 gH458 3000 = true := by decide +kernel
noncomputable def gH459 : sHt := ([], [], [(8, [[386, 387]])], [], [(10, [386])], [])
theorem gK459 : cChk 459 gCT gRU gC459 0 gH459 3000 = true := by decide +kernel
noncomputable def gH460 : sHt := ([], [], [], [], [(3, [459])], [])
theorem gK460 : cChk 460 gCT gRU gC460 0 gH460 3000 = true := by decide +kernel
noncomputable def gH461 : sHt := ([], [(72, false)], [(0, [[420, 421]])], [], [(10, [460])], [])
theorem gK461 : cChk 461 gCT gRU gC461 3 gH461 3000 = true := by decide +kernel
noncomputable def gH462 : sHt := ([], [], [(8, [[386]])], [], [(10, [386])], [])
theorem gK462 : cChk 462 gCT gRU gC462 0 gH462 3000 = true := by decide +kernel
noncomputable def gH463 : sHt := ([], [], [], [], [(3, [462])], [])
theorem gK463 : cChk 463 gCT gRU gC463 0 gH463 3000 = true := by decide +kernel
noncomputable def gH464 : sHt := ([], [(72, false)], [(0, [[420, 421]])], [], [(10, [463])], [])
theorem gK464 : cChk 464 gCT gRU gC464 3 gH464 3000 = true := by decide +kernel
noncomputable def gH465 : sHt := ([], [], [(8, [[386, 387]])], [], [(10, [386])], [])
theorem gK465 : cChk 465 gCT gRU gC465 0 gH465 3000 = true := by decide +kernel
noncomputable def gH466 : sHt := ([], [], [], [], [(3, [465])], [])
theorem gK466 : cChk 466 gCT gRU gC466 0 gH466 3000 = true := by decide +kernel
noncomputable def gH467 : sHt := ([], [(72, false)], [(0, [[420, 421]])], [], [(10, [466])], [])
theorem gK467 : cChk 467 gCT gRU gC467 3 gH467 3000 = true := by decide +kernel
noncomputable def gH468 : sHt := ([(16, ((13, [(0, .ofNat 0, .ofNat 940), (1, .ofNat 0, .ofNat 940), (2, .negSucc 2147483647, .ofNat 2147483647), (3, .ofNat 0, .ofNat 940), (4, .ofNat 0, .ofNat 26), (5, .ofNat 0, .ofNat 1000), (6, .negSucc 0, .ofNat 99), (7, .negSucc 0, .ofNat 99), (8, .negSucc 0, .ofNat 99), (9, .negSucc 0, .ofNat 99), (10, .ofNat 0, .ofNat 940), (11, .ofNat 0, .ofNat 940), (12, .ofNat 0, .ofNat 30)], [], []), [(94, .ofNat 273, []), (1, .ofNat 0, []), (1, .ofNat 0, [(.ofNat 1, 12)])], ([((78, .ofNat 273, []), (.ofNat 14, []), 1, .ofNat 0, [(.ofNat 1, 2)]), ((78, .ofNat 273, []), (.ofNat 4, []), 1, .ofNat 0, [(.ofNat 1, 1)]), ((78, .ofNat 273, []), (.ofNat 12, []), 1, .ofNat 0, [(.ofNat 1, 0)]), ((78, .ofNat 273, []), (.ofNat 11, []), 1, .ofNat 2, [])], [(119, [(.ofNat 0, [(.ofNat 1, 3)]), (.ofNat 0, [(.ofNat 1, 4)]), (.ofNat 0, [(.ofNat 1, 5)]), (.ofNat 0, [(.ofNat 1, 6)]), (.ofNat 0, [(.ofNat 1, 7)]), (.ofNat 0, [(.ofNat 1, 8)]), (.ofNat 0, [(.ofNat 1, 9)]), (.ofNat 0, [(.ofNat 1, 10)]), (.ofNat 0, [(.ofNat 1, 11)]), (.ofNat 2, []), (.ofNat 0, [(.ofNat 1, 0)]), (.ofNat 0, [(.ofNat 1, 1)]), (.ofNat 0, [(.ofNat 1, 2)])]), (132, [])])), (.ofNat 30, [(.negSucc 0, 12)]))], [(16, false)], [(14, [[446]]), (22, [[447]]), (46, [[448, 449, 450, 451]]), (52, [[452], [453, 454]])], [], [], [])
theorem gK468 : cChk 468 gCT gRU gC468 2 gH468 3000 = true := by decide +kernel
noncomputable def gH469 : sHt := ([], [], [(7, [[455, 456]])], [], [(1, [468]), (9, [386])], [])
theorem gK469 : cChk 469 gCT gRU gC469 0 gH469 3000 = true := by decide +kernel
noncomputable def gH470 : sHt := ([(16, ((15, [(0, .ofNat 0, .ofNat 940), (1, .ofNat 0, .ofNat 940), (2, .ofNat 0, .ofNat 940), (3, .ofNat 0, .ofNat 26), (4, .ofNat 0, .ofNat 1000), (5, .negSucc 0, .ofNat 99), (6, .negSucc 0, .ofNat 99), (7, .negSucc 0, .ofNat 99), (8, .negSucc 0, .ofNat 99), (9, .ofNat 0, .ofNat 940), (10, .ofNat 0, .ofNat 940), (11, .negSucc 0, .ofNat 99), (12, .ofNat 0, .ofNat 1), (13, .ofNat 0, .ofNat 30)], [], []), [(94, .ofNat 273, []), (1, .ofNat 0, [(.ofNat 1, 12)]), (1, .ofNat 0, [(.ofNat 1, 13)])], ([((78, .ofNat 273, []), (.ofNat 17, []), 5, .ofNat 0, [(.ofNat 1, 14)]), ((78, .ofNat 273, []), (.ofNat 4, []), 1, .ofNat 0, [(.ofNat 1, 1)]), ((78, .ofNat 273, []), (.ofNat 12, []), 1, .ofNat 0, [(.ofNat 1, 0)]), ((78, .ofNat 273, []), (.ofNat 11, []), 1, .ofNat 1, [])], [(119, [(.ofNat 0, [(.ofNat 1, 2)]), (.ofNat 0, [(.ofNat 1, 3)]), (.ofNat 0, [(.ofNat 1, 4)]), (.ofNat 0, [(.ofNat 1, 5)]), (.ofNat 0, [(.ofNat 1, 6)]), (.ofNat 0, [(.ofNat 1, 7)]), (.ofNat 0, [(.ofNat 1, 8)]), (.ofNat 0, [(.ofNat 1, 9)]), (.ofNat 0, [(.ofNat 1, 10)]), (.ofNat 1, []), (.ofNat 0, [(.ofNat 1, 0)]), (.ofNat 0, [(.ofNat 1, 1)]), (.ofNat 0, [(.ofNat 1, 11)])]), (131, [(.ofNat 0, [(.ofNat 1, 0)]), (.ofNat 0, [(.ofNat 1, 1)])]), (132, []), (133, [(.ofNat 0, [(.ofNat 1, 13)]), (.ofNat 0, [(.ofNat 1, 12)]), (.ofNat 0, [(.ofNat 1, 14)])])])), (.ofNat 30, [(.negSucc 0, 13)]))], [(16, false)], [(14, [[446]]), (22, [[447]]), (46, [[448, 449, 450, 451]]), (52, [[452], [453, 454]])], [], [], [])
theorem gK470 : cChk 470 gCT gRU gC470 2 gH470 3000 = true := by decide +kernel
noncomputable def gH471 : sHt := ([(2, ((18, [(0, .ofNat 0, .ofNat 5), (1, .ofNat 0, .ofNat 940), (2, .ofNat 0, .ofNat 940), (3, .ofNat 0, .ofNat 4), (4, .ofNat 0, .ofNat 3), (5, .ofNat 0, .ofNat 5), (6, .ofNat 0, .ofNat 940), (7, .ofNat 0, .ofNat 26), (8, .ofNat 0, .ofNat 1000), (9, .negSucc 0, .ofNat 99), (10, .negSucc 0, .ofNat 99), (11, .negSucc 0, .ofNat 99), (12, .negSucc 0, .ofNat 99), (13, .ofNat 0, .ofNat 940), (14, .ofNat 0, .ofNat 940), (15, .negSucc 0, .ofNat 99), (16, .ofNat 0, .ofNat 5)], [(.ofNat 0, [(.ofNat 1, 0), (.negSucc 0, 5)]), (.ofNat 0, [(.negSucc 0, 0), (.ofNat 1, 5)])], []), [(94, .ofNat 273, []), (1, .ofNat 19, []), (1, .ofNat 0, [(.ofNat 1, 0)]), (1, .ofNat 0, [(.ofNat 1, 16)])], ([((78, .ofNat 273, []), (.ofNat 17, []), 5, .ofNat 0, [(.ofNat 1, 17)]), ((81, .ofNat 276, []), (.ofNat 4, []), 1, .ofNat 0, [(.ofNat 1, 5)]), ((81, .ofNat 276, []), (.ofNat 3, []), 1, .ofNat 0, [(.ofNat 1, 4)]), ((81, .ofNat 276, []), (.ofNat 2, []), 1, .ofNat 0, [(.ofNat 1, 3)]), ((78, .ofNat 273, []), (.ofNat 7, []), 97, .ofNat 276, []), ((78, .ofNat 273, []), (.ofNat 4, []), 1, .ofNat 0, [(.ofNat 1, 2)]), ((78, .ofNat 273, []), (.ofNat 12, []), 1, .ofNat 0, [(.ofNat 1, 1)]), ((78, .ofNat 273, []), (.ofNat 11, []), 1, .ofNat 1, [])], [(119, [(.ofNat 0, [(.ofNat 1, 6)]), (.ofNat 0, [(.ofNat 1, 7)]), (.ofNat 0, [(.ofNat 1, 8)]), (.ofNat 0, [(.ofNat 1, 9)]), (.ofNat 0, [(.ofNat 1, 10)]), (.ofNat 0, [(.ofNat 1, 11)]), (.ofNat 0, [(.ofNat 1, 12)]), (.ofNat 0, [(.ofNat 1, 13)]), (.ofNat 0, [(.ofNat 1, 14)]), (.ofNat 1, []), (.ofNat 0, [(.ofNat 1, 1)]), (.ofNat 0, [(.ofNat 1, 2)]), (.ofNat 0, [(.ofNat 1, 15)])]), (131, [(.ofNat 0, [(.ofNat 1, 1)]), (.ofNat 0, [(.ofNat 1, 2)])]), (143, [(.ofNat 0, [(.ofNat 1, 3)]), (.ofNat 0, [(.ofNat 1, 8)])]), (145, [(.ofNat 0, [(.ofNat 1, 4)]), (.ofNat 0, [(.ofNat 1, 8)])]), (147, [(.ofNat 0, [(.ofNat 1, 5)]), (.ofNat 0, [(.ofNat 1, 8)])]), (148, [(.ofNat 0, [(.ofNat 1, 16)]), (.ofNat 0, [(.ofNat 1, 17)])])])), (.ofNat 5, [(.negSucc 0, 16)]))], [(2, false)], [(0, [[458, 459, 460]]), (23, [[466, 467, 468]]), (25, [[461, 462, 463, 464, 465, 469]]), (31, [[470, 471, 472]])], [], [], [])
theorem gK471 : cChk 471 gCT gRU gC471 1 gH471 3000 = true := by decide +kernel
noncomputable def gH472 : sHt := ([], [], [(7, [[455, 456, 457]]), (30, [[473, 474]]), (36, [[475, 476]])], [], [(1, [470]), (9, [386]), (17, [471]), (32, [386]), (37, [377])], [])
theorem gK472 : cChk 472 gCT gRU gC472 0 gH472 3000 = true := by decide +kernel
noncomputable def gH473 : sHt := ([], [], [(8, [[386, 387]])], [], [(10, [386])], [])
theorem gK473 : cChk 473 gCT gRU gC473 0 gH473 3000 = true := by decide +kernel
noncomputable def gH474 : sHt := ([], [], [], [], [(3, [473])], [])
theorem gK474 : cChk 474 gCT gRU gC474 0 gH474 3000 = true := by decide +kernel
noncomputable def gH475 : sHt := ([], [(72, false)], [(0, [[420]])], [], [(10, [474])], [])
theorem gK475 : cChk 475 gCT gRU gC475 3 gH475 3000 = true := by decide +kernel
noncomputable def gH476 : sHt := ([], [], [(8, [[386]])], [], [(10, [386])], [])
theorem gK476 : cChk 476 gCT gRU gC476 0 gH476 3000 = true := by decide +kernel
noncomputable def gH477 : sHt := ([], [], [], [], [(3, [476])], [])
theorem gK477 : cChk 477 gCT gRU gC477 0 gH477 3000 = true := by decide +kernel
noncomputable def gH478 : sHt := ([], [(72, false)], [(0, [[420]])], [], [(10, [477])], [])
theorem gK478 : cChk 478 gCT gRU gC478 3 gH478 3000 = true := by decide +kernel
noncomputable def gH479 : sHt := ([], [], [(8, [[386, 387]])], [], [(10, [386])], [])
theorem gK479 : cChk 479 gCT gRU gC479 0 gH479 3000 = true := by decide +kernel
noncomputable def gH480 : sHt := ([], [], [], [], [(3, [479])], [])
theorem gK480 : cChk 480 gCT gRU gC480 0 gH480 3000 = true := by decide +kernel
noncomputable def gH481 : sHt := ([], [(72, false)], [(0, [[420]])], [], [(10, [480])], [])
theorem gK481 : cChk 481 gCT gRU gC481 3 gH481 3000 = true := by decide +kernel
noncomputable def gH482 : sHt := ([], [], [(8, [[386]])], [], [(10, [386])], [])
theorem gK482 : cChk 482 gCT gRU gC482 0 gH482 3000 = true := by decide +kernel
noncomputable def gH483 : sHt := ([], [], [], [], [(3, [482])], [])
theorem gK483 : cChk 483 gCT gRU gC483 0 gH483 3000 = true := by decide +kernel
noncomputable def gH484 : sHt := ([], [(72, false)], [(0, [[420]])], [], [(10, [483])], [])
theorem gK484 : cChk 484 gCT gRU gC484 3 gH484 3000 = true := by decide +kernel
noncomputable def gH485 : sHt := ([], [], [(34, [[388, 389]]), (42, [[390]])], [], [(28, [414]), (36, [386])], [])
theorem gK485 : cChk 485 gCT gRU gC485 0 gH485 3000 = true := by decide +kernel
noncomputable def gH486 : sHt := ([], [], [(11, [[403, 404, 405, 406, 407, 408, 409, 410]])], [], [(3, [485]), (12, [377])], [])
theorem gK486 : cChk 486 gCT gRU gC486 0 gH486 3000 = true := by decide +kernel
noncomputable def gH487 : sHt := ([], [], [(8, [[386, 387]])], [], [(10, [386])], [])
theorem gK487 : cChk 487 gCT gRU gC487 0 gH487 3000 = true := by decide +kernel
noncomputable def gH488 : sHt := ([], [], [(8, [[386]])], [], [(10, [386])], [])
theorem gK488 : cChk 488 gCT gRU gC488 0 gH488 3000 = true := by decide +kernel
noncomputable def gH489 : sHt := ([], [], [(8, [[386, 387]])], [], [(10, [386])], [])
theorem gK489 : cChk 489 gCT gRU gC489 0 gH489 3000 = true := by decide +kernel
noncomputable def gH490 : sHt := ([], [], [(8, [[386]])], [], [(10, [386])], [])
theorem gK490 : cChk 490 gCT gRU gC490 0 gH490 3000 = true := by decide +kernel
noncomputable def gH491 : sHt := ([], [], [(34, [[388, 389]]), (42, [[390]])], [], [(28, [414]), (36, [386])], [])
theorem gK491 : cChk 491 gCT gRU gC491 0 gH491 3000 = true := by decide +kernel
noncomputable def gH492 : sHt := ([(72, ((24, [(0, .ofNat 0, .ofNat 4), (1, .ofNat 0, .ofNat 939), (2, .ofNat 0, .ofNat 13), (3, .ofNat 0, .ofNat 10), (4, .ofNat 1, .ofNat 10), (5, .ofNat 1, .ofNat 10), (6, .ofNat 0, .ofNat 8), (7, .ofNat 0, .ofNat 940), (8, .ofNat 0, .ofNat 9), (9, .ofNat 0, .ofNat 940), (10, .ofNat 19, .ofNat 19), (11, .ofNat 0, .ofNat 1000), (12, .negSucc 0, .ofNat 99), (13, .negSucc 0, .ofNat 99), (14, .negSucc 0, .ofNat 99), (15, .negSucc 0, .ofNat 99), (16, .ofNat 0, .ofNat 940), (17, .ofNat 0, .ofNat 940), (18, .ofNat 0, .ofNat 1), (19, .ofNat 0, .ofNat 13), (20, .ofNat 0, .ofNat 9), (21, .ofNat 0, .ofNat 940), (22, .ofNat 0, .ofNat 939), (23, .ofNat 0, .ofNat 1)], [(.ofNat 1, [(.negSucc 0, 4), (.ofNat 1, 8)]), (.ofNat 0, [(.ofNat 1, 1), (.negSucc 0, 21)]), (.ofNat 0, [(.negSucc 0, 21), (.ofNat 1, 22)]), (.ofNat 1, [(.negSucc 0, 5), (.ofNat 1, 20)])], []), [(94, .ofNat 273, []), (1, .ofNat 0, [(.ofNat 1, 0)]), (1, .ofNat 0, [(.ofNat 1, 8)]), (1, .ofNat 0, [(.ofNat 1, 18)]), (1, .ofNat 0, [(.ofNat 1, 19)])], ([((78, .ofNat 273, []), (.ofNat 18, []), 1, .ofNat 0, [(.ofNat 1, 20)]), ((78, .ofNat 273, []), (.ofNat 11, []), 1, .ofNat 2, []), ((78, .ofNat 273, []), (.ofNat 4, []), 1, .ofNat 0, [(.ofNat 1, 21)]), ((78, .ofNat 273, []), (.ofNat 12, []), 1, .ofNat 0, [(.ofNat 1, 22)]), ((78, .ofNat 273, []), (.ofNat 14, []), 1, .ofNat 0, [(.ofNat 1, 20)]), ((81, .ofNat 276, []), (.ofNat 6, []), 1, .ofNat 0, [(.ofNat 1, 6)]), ((81, .ofNat 276, []), (.ofNat 1, []), 1, .ofNat 0, [(.ofNat 1, 5)]), ((81, .ofNat 276, []), (.ofNat 0, []), 1, .ofNat 0, [(.ofNat 1, 4)]), ((81, .ofNat 276, []), (.ofNat 400, []), 1, .ofNat 0, [(.ofNat 1, 3)]), ((81, .ofNat 276, []), (.ofNat 5, []), 1, .ofNat 0, [(.ofNat 1, 2)]), ((78, .ofNat 273, []), (.ofNat 7, []), 97, .ofNat 276, []), ((81, .ofNat 276, []), (.ofNat 300, [(.ofNat 1, 8), (.ofNat 10, 20)]), 1, .ofNat 0, [(.ofNat 1, 23)])], [(175, [(.ofNat 0, [(.ofNat 1, 11)]), (.ofNat 0, [(.ofNat 1, 4)]), (.ofNat 0, [(.ofNat 1, 5)])]), (159, [(.ofNat 0, [(.ofNat 1, 2)]), (.ofNat 0, [(.ofNat 1, 11)])]), (162, [(.ofNat 0, [(.ofNat 1, 11)])]), (119, [(.ofNat 0, [(.ofNat 1, 1)]), (.ofNat 20, []), (.ofNat 0, [(.ofNat 1, 11)]), (.ofNat 0, [(.ofNat 1, 12)]), (.ofNat 0, [(.ofNat 1, 8)]), (.ofNat 0, []), (.ofNat 0, []), (.ofNat 0, []), (.ofNat 0, []), (.ofNat 2, []), (.ofNat 0, [(.ofNat 1, 22)]), (.ofNat 0, [(.ofNat 1, 21)]), (.ofNat 0, [(.ofNat 1, 20)])]), (121, [(.ofNat 0, [(.ofNat 1, 1)]), (.ofNat 0, []), (.negSucc 0, [(.ofNat 1, 5)])]), (150, [(.ofNat 0, [(.ofNat 1, 1)])]), (161, [(.ofNat 0, [(.ofNat 1, 19)]), (.ofNat 0, [(.ofNat 1, 18)]), (.ofNat 0, [(.ofNat 1, 11)]), (.ofNat 0, [(.ofNat 1, 8)]), (.ofNat 0, [(.ofNat 1, 20)])])])), (.ofNat 13, [(.negSucc 0, 19)]))], [(72, false)], [(0, [[420]]), (23, [[422]]), (69, [[424, 425]]), (83, [[426], [427], [428]]), (126, [[429, 430, 431, 432, 433, 434]]), (132, [[426], [435, 436]]), (136, [[437]]), (227, [[477]]), (237, [[441]])], [], [(10, [486]), (33, [487, 488, 489, 490, 491]), (138, [386]), (238, [377])], [])
theorem gK492 : cChk 492 gCT gRU gC492 3 gH492 3000 = true := by decide +kernel
end CkChk35
