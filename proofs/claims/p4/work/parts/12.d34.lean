section CkChk34
noncomputable def gH420 : sHt := ([], [], [(0, [[350, 353, 354, 355, 356, 357, 358, 359, 371, 372, 373, 374, 375]]), (21, [[351, 352]])], [], [], [])
theorem gK420 : cChk 420 gCT gRU gC420 0 gH420 3000 = true := by decide +kernel
noncomputable def gH421 : sHt := ([], [], [], [], [(4, [416]), (18, [417]), (32, [418]), (46, [419]), (60, [420])], [])
theorem gK421 : cChk 421 gCT gRU gC421 0 gH421 3000 = true := by decide +kernel
noncomputable def gH422 : sHt := ([], [], [(15, [[376, 377]])], [], [(2, [421]), (17, [386])], [])
theorem gK422 : cChk 422 gCT gRU gC422 0 gH422 3000 = true := by decide +kernel
noncomputable def gH423 : sHt := ([], [], [(0, [[350, 353, 354, 355, 356, 357, 358, 359, 371]]), (21, [[351, 352]])], [], [], [])
theorem gK423 : cChk 423 gCT gRU gC423 0 gH423 3000 = true := by decide +kernel
noncomputable def gH424 : sHt := ([], [], [(0, [[350, 353, 354, 355, 356, 357, 358, 359, 371, 372]]), (21, [[351, 352]])], [], [], [])
theorem gK424 : cChk 424 gCT gRU gC424 0 gH424 3000 = true := by decide +kernel
noncomputable def gH425 : sHt := ([], [], [(0, [[350, 353, 354, 355, 356, 357, 358, 359, 371, 372, 373]]), (21, [[351, 352]])], [], [], [])
theorem gK425 : cChk 425 gCT gRU gC425 0 gH425 3000 = true := by decide +kernel
noncomputable def gH426 : sHt := ([], [], [(0, [[350, 353, 354, 355, 356, 357, 358, 359, 371, 372, 373, 374]]), (21, [[351, 352]])], [], [], [])
theorem gK426 : cChk 426 gCT gRU gC426 0 gH426 3000 = true := by decide +kernel
noncomputable def gH427 : sHt := ([], [], [(0, [[350, 353, 354, 355, 356, 357, 358, 359, 371, 372, 373, 374, 375]]), (21, [[351, 352]])], [], [], [])
theorem gK427 : cChk 427 gCT gRU gC427 0 gH427 3000 = true := by decide +kernel
noncomputable def gH428 : sHt := ([], [], [], [], [(4, [423]), (18, [424]), (32, [425]), (46, [426]), (60, [427])], [])
theorem gK428 : cChk 428 gCT gRU gC428 0 gH428 3000 = true := by decide +kernel
noncomputable def gH429 : sHt := ([], [], [(15, [[376]])], [], [(2, [428]), (17, [386])], [])
theorem gK429 : cChk 429 gCT gRU gC429 0 gH429 3000 = true := by decide +kernel
noncomputable def gH430 : sHt := ([], [], [(0, [[350, 353, 354, 355, 356, 357, 358, 359, 371]]), (21, [[351, 352]])], [], [], [])
theorem gK430 : cChk 430 gCT gRU gC430 0 gH430 3000 = true := by decide +kernel
noncomputable def gH431 : sHt := ([], [], [(0, [[350, 353, 354, 355, 356, 357, 358, 359, 371, 372]]), (21, [[351, 352]])], [], [], [])
theorem gK431 : cChk 431 gCT gRU gC431 0 gH431 3000 = true := by decide +kernel
noncomputable def gH432 : sHt := ([], [], [(0, [[350, 353, 354, 355, 356, 357, 358, 359, 371, 372, 373]]), (21, [[351, 352]])], [], [], [])
theorem gK432 : cChk 432 gCT gRU gC432 0 gH432 3000 = true := by decide +kernel
noncomputable def gH433 : sHt := ([], [], [(0, [[350, 353, 354, 355, 356, 357, 358, 359, 371, 372, 373, 374]]), (21, [[351, 352]])], [], [], [])
theorem gK433 : cChk 433 gCT gRU gC433 0 gH433 3000 = true := by decide +kernel
noncomputable def gH434 : sHt := ([], [], [(0, [[350, 353, 354, 355, 356, 357, 358, 359, 371, 372, 373, 374, 375]]), (21, [[351, 352]])], [], [], [])
theorem gK434 : cChk 434 gCT gRU gC434 0 gH434 3000 = true := by decide +kernel
noncomputable def gH435 : sHt := ([], [], [], [], [(4, [430]), (18, [431]), (32, [432]), (46, [433]), (60, [434])], [])
theorem gK435 : cChk 435 gCT gRU gC435 0 gH435 3000 = true := by decide +kernel
noncomputable def gH436 : sHt := ([], [], [(15, [[376, 377]])], [], [(2, [435]), (17, [386])], [])
theorem gK436 : cChk 436 gCT gRU gC436 0 gH436 3000 = true := by decide +kernel
noncomputable def gH437 : sHt := ([], [], [(34, [[388, 389]]), (42, [[390]])], [], [(28, [414]), (36, [386])], [])
theorem gK437 : cChk 437 gCT gRU gC437 0 gH437 3000 = true := by decide +kernel
noncomputable def gH438 : sHt := ([], [], [(11, [[403, 404, 405, 406, 407, 408, 409, 410, 411, 412]])], [], [(3, [437]), (12, [377])], [])
theorem gK438 : cChk 438 gCT gRU gC438 0 gH438 3000 = true := by decide +kernel
noncomputable def gH439 : sHt := ([], [], [(8, [[386]])], [], [(10, [386])], [])
theorem gK439 : cChk 439 gCT gRU gC439 0 gH439 3000 = true := by decide +kernel
noncomputable def gH440 : sHt := ([], [], [], [], [(3, [439])], [])
theorem gK440 : cChk 440 gCT gRU gC440 0 gH440 3000 = true := by decide +kernel
noncomputable def gH441 : sHt := ([], [], [(8, [[386, 387]])], [], [(10, [386])], [])
theorem gK441 : cChk 441 gCT gRU gC441 0 gH441 3000 = true := by decide +kernel
noncomputable def gH442 : sHt := ([], [], [], [], [(3, [441])], [])
theorem gK442 : cChk 442 gCT gRU gC442 0 gH442 3000 = true := by decide +kernel
noncomputable def gH443 : sHt := ([], [], [(8, [[386]])], [], [(10, [386])], [])
theorem gK443 : cChk 443 gCT gRU gC443 0 gH443 3000 = true := by decide +kernel
noncomputable def gH444 : sHt := ([], [], [], [], [(3, [443])], [])
theorem gK444 : cChk 444 gCT gRU gC444 0 gH444 3000 = true := by decide +kernel
noncomputable def gH445 : sHt := ([], [], [(8, [[386, 387]])], [], [(10, [386])], [])
theorem gK445 : cChk 445 gCT gRU gC445 0 gH445 3000 = true := by decide +kernel
noncomputable def gH446 : sHt := ([], [], [], [], [(3, [445])], [])
theorem gK446 : cChk 446 gCT gRU gC446 0 gH446 3000 = true := by decide +kernel
noncomputable def gH447 : sHt := ([(44, ((31, [(0, .ofNat 0, .ofNat 939), (1, .ofNat 1, .ofNat 10), (2, .ofNat 1, .ofNat 10), (3, .ofNat 0, .ofNat 7), (4, .ofNat 0, .ofNat 940), (5, .ofNat 0, .ofNat 4), (6, .ofNat 0, .ofNat 3), (7, .ofNat 0, .ofNat 5), (8, .ofNat 0, .ofNat 14), (9, .ofNat 0, .ofNat 10), (10, .ofNat 0, .ofNat 8), (11, .ofNat 0, .ofNat 1), (12, .ofNat 0, .ofNat 940), (13, .ofNat 0, .ofNat 0), (14, .ofNat 0, .ofNat 900), (15, .negSucc 0, .ofNat 99), (16, .negSucc 0, .ofNat 99), (17, .negSucc 0, .ofNat 99), (18, .negSucc 0, .ofNat 99), (19, .ofNat 0, .ofNat 940), (20, .ofNat 0, .ofNat 940), (21, .ofNat 7, .ofNat 7), (22, .ofNat 0, .ofNat 1), (23, .ofNat 0, .ofNat 7), (24, .ofNat 1, .ofNat 4), (25, .ofNat 0, .ofNat 4), (26, .ofNat 0, .ofNat 940), (27, .ofNat 0, .ofNat 939), (28, .ofNat 1, .ofNat 940), (29, .ofNat 1, .ofNat 940), (30, .ofNat 0, .ofNat 939)], [(.ofNat 1, [(.ofNat 1, 0), (.negSucc 0, 29)]), (.ofNat 0, [(.ofNat 1, 0), (.negSucc 0, 30)]), (.ofNat 0, [(.negSucc 0, 26), (.ofNat 1, 30)]), (.ofNat 0, [(.negSucc 0, 26), (.ofNat 1, 27)])], []), [(94, .ofNat 273, []), (1, .ofNat 0, [(.ofNat 1, 3)]), (1, .ofNat 0, [(.ofNat 1, 23)])], ([((78, .ofNat 273, []), (.ofNat 18, []), 1, .ofNat 0, [(.ofNat 1, 24)]), ((78, .ofNat 273, []), (.ofNat 21, []), 1, .ofNat 0, [(.ofNat 1, 25)]), ((78, .ofNat 273, []), (.ofNat 11, []), 1, .ofNat 2, []), ((78, .ofNat 273, []), (.ofNat 4, []), 1, .ofNat 0, [(.ofNat 1, 26)]), ((78, .ofNat 273, []), (.ofNat 12, []), 1, .ofNat 0, [(.ofNat 1, 27)]), ((78, .ofNat 273, []), (.ofNat 14, []), 1, .ofNat 0, [(.ofNat 1, 24)]), ((78, .ofNat 273, []), (.ofNat 5, []), 1, .ofNat 0, [(.ofNat 1, 28)]), ((78, .ofNat 273, []), (.ofNat 3, []), 1, .ofNat 0, [(.ofNat 1, 29)]), ((78, .ofNat 273, []), (.ofNat 26, []), 1, .ofNat 0, [(.ofNat 1, 11)]), ((78, .ofNat 273, []), (.ofNat 20, []), 1, .ofNat 0, [(.ofNat 1, 10)]), ((81, .ofNat 276, []), (.ofNat 400, []), 1, .ofNat 0, [(.ofNat 1, 9)]), ((81, .ofNat 276, []), (.ofNat 5, []), 1, .ofNat 0, [(.ofNat 1, 8)]), ((81, .ofNat 276, []), (.ofNat 4, []), 1, .ofNat 0, [(.ofNat 1, 7)]), ((81, .ofNat 276, []), (.ofNat 3, []), 1, .ofNat 0, [(.ofNat 1, 6)]), ((81, .ofNat 276, []), (.ofNat 2, []), 1, .ofNat 0, [(.ofNat 1, 5)]), ((81, .ofNat 276, []), (.ofNat 6, []), 1, .ofNat 0, [(.ofNat 1, 3)]), ((81, .ofNat 276, []), (.ofNat 1, []), 1, .ofNat 0, [(.ofNat 1, 2)]), ((81, .ofNat 276, []), (.ofNat 0, []), 1, .ofNat 0, [(.ofNat 1, 1)]), ((78, .ofNat 273, []), (.ofNat 7, []), 97, .ofNat 276, [])], [(132, []), (125, [(.ofNat 0, [(.ofNat 1, 14)]), (.ofNat 0, [(.ofNat 1, 5)]), (.ofNat 0, [(.ofNat 1, 6)]), (.ofNat 0, [(.ofNat 1, 7)]), (.ofNat 0, [(.ofNat 1, 3)]), (.ofNat 0, [(.ofNat 1, 8)]), (.ofNat 0, [(.ofNat 1, 9)]), (.ofNat 0, [(.ofNat 1, 10)]), (.ofNat 0, [(.ofNat 1, 22)]), (.ofNat 0, [(.ofNat 1, 1)]), (.ofNat 0, [(.ofNat 1, 2)])]), (130, [(.ofNat 0, [(.ofNat 1, 14)]), (.ofNat 0, [(.ofNat 1, 11)])]), (143, [(.ofNat 0, [(.ofNat 1, 5)]), (.ofNat 0, [(.ofNat 1, 14)])]), (145, [(.ofNat 0, [(.ofNat 1, 6)]), (.ofNat 0, [(.ofNat 1, 14)])]), (147, [(.ofNat 0, [(.ofNat 1, 7)]), (.ofNat 0, [(.ofNat 1, 14)])]), (154, [(.ofNat 0, [(.ofNat 1, 14)])]), (159, [(.ofNat 0, [(.ofNat 1, 8)]), (.ofNat 0, [(.ofNat 1, 14)])]), (162, [(.ofNat 0, [(.ofNat 1, 14)])]), (166, [(.ofNat 0, [(.ofNat 1, 3)]), (.ofNat 0, [(.ofNat 1, 14)])]), (6, [(.ofNat 0, [(.ofNat 1, 3)])]), (118, [(.ofNat 0, [(.ofNat 1, 0)]), (.ofNat 23, []), (.ofNat 0, [(.ofNat 1, 14)]), (.ofNat 0, []), (.ofNat 0, []), (.ofNat 0, []), (.ofNat 0, []), (.ofNat 0, []), (.ofNat 0, [])]), (122, [(.ofNat 0, [(.ofNat 1, 0)])]), (119, [(.ofNat 0, [(.ofNat 1, 30)]), (.ofNat 24, []), (.ofNat 0, [(.ofNat 1, 14)]), (.ofNat 0, [(.ofNat 1, 25)]), (.ofNat 0, []), (.ofNat 0, []), (.ofNat 0, []), (.ofNat 0, []), (.ofNat 0, []), (.ofNat 2, []), (.ofNat 0, [(.ofNat 1, 27)]), (.ofNat 0, [(.ofNat 1, 26)]), (.ofNat 0, [(.ofNat 1, 24)])]), (121, [(.ofNat 0, [(.ofNat 1, 30)]), (.ofNat 1, []), (.ofNat 4, [])]), (150, [(.ofNat 0, [(.ofNat 1, 30)])]), (167, [(.ofNat 0, [(.ofNat 1, 23)]), (.ofNat 0, [(.ofNat 1, 14)]), (.ofNat 0, [(.ofNat 1, 25)]), (.ofNat 0, [(.ofNat 1, 24)])])])), (.ofNat 7, [(.negSucc 0, 23)]))], [(44, false)], [(14, [[368]]), (20, [[369]]), (24, [[370]]), (31, [[385]]), (42, [[391]]), (49, [[392], [393]]), (83, [[398]]), (89, [[394, 395, 396, 397]]), (95, [[399]]), (123, [[400], [401]]), (127, [[402]]), (153, [[413], [414]])], [], [(16, [386]), (21, [377]), (25, [402, 409, 422, 429, 436]), (34, [410, 411, 412, 413, 415]), (85, [386]), (124, [377]), (131, [438, 440, 442, 444, 446])], [])
theorem gK447 : cChk 447 gCT gRU gC447 2 gH447 3000 = true := by decide +kernel
noncomputable def gH448 : sHt := ([], [], [(34, [[388, 389]]), (42, [[390]])], [], [(28, [414]), (36, [386])], [])
theorem gK448 : cChk 448 gCT gRU gC448 0 gH448 3000 = true := by decide +kernel
noncomputable def gH449 : sHt := ([], [], [(11, [[403, 404, 405, 406, 407, 408, 409, 410, 411]])], [], [(3, [448]), (12, [377])], [])
theorem gK449 : cChk 449 gCT gRU gC449 0 gH449 3000 = true := by decide +kernel
noncomputable def gH450 : sHt := ([], [], [(8, [[386, 387]])], [], [(10, [386])], [])
theorem gK450 : cChk 450 gCT gRU gC450 0 gH450 3000 = true := by decide +kernel
noncomputable def gH451 : sHt := ([], [], [(8, [[386]])], [], [(10, [386])], [])
theorem gK451 : cChk 451 gCT gRU gC451 0 gH451 3000 = true := by decide +kernel
noncomputable def gH452 : sHt := ([], [], [(8, [[386, 387]])], [], [(10, [386])], [])
theorem gK452 : cChk 452 gCT gRU gC452 0 gH452 3000 = true := by decide +kernel
noncomputable def gH453 : sHt := ([], [], [(8, [[386]])], [], [(10, [386])], [])
theorem gK453 : cChk 453 gCT gRU gC453 0 gH453 3000 = true := by decide +kernel
noncomputable def gH454 : sHt := ([], [], [(34, [[388, 389]]), (42, [[390]])], [], [(28, [414]), (36, [386])], [])
theorem gK454 : cChk 454 gCT gRU gC454 0 gH454 3000 = true := by decide +kernel
noncomputable def gH455 : sHt := ([(72, ((24, [(0, .negSucc 0, .negSucc 0), (1, .ofNat 0, .ofNat 939), (2, .ofNat 0, .ofNat 14), (3, .ofNat 0, .ofNat 9), (4, .ofNat 1, .ofNat 10), (5, .ofNat 1, .ofNat 10), (6, .ofNat 0, .ofNat 8), (7, .ofNat 0, .ofNat 940), (8, .ofNat 0, .ofNat 9), (9, .ofNat 0, .ofNat 940), (10, .ofNat 21, .ofNat 21), (11, .ofNat 0, .ofNat 1000), (12, .negSucc 0, .ofNat 99), (13, .negSucc 0, .ofNat 99), (14, .negSucc 0, .ofNat 99), (15, .negSucc 0, .ofNat 99), (16, .ofNat 0, .ofNat 940), (17, .ofNat 0, .ofNat 940), (18, .ofNat 0, .ofNat 1), (19, .ofNat 0, .ofNat 14), (20, .ofNat 0, .ofNat 9), (21, .ofNat 0, .ofNat 940), (22, .ofNat 0, .ofNat 939), (23, .ofNat 0, .ofNat 1)], [(.ofNat 1, [(.negSucc 0, 4), (.ofNat 1, 8)]), (.ofNat 0, [(.ofNat 1, 1), (.negSucc 0, 21)]), (.ofNat 0, [(.negSucc 0, 21), (.ofNat 1, 22)]), (.ofNat 1, [(.negSucc 0, 5), (.ofNat 1, 20)])], []), [(94, .ofNat 273, []), (1, .negSucc 0, []), (1, .ofNat 0, [(.ofNat 1, 8)]), (1, .ofNat 0, [(.ofNat 1, 18)]), (1, .ofNat 0, [(.ofNat 1, 19)])], ([((78, .ofNat 273, []), (.ofNat 18, []), 1, .ofNat 0, [(.ofNat 1, 20)]), ((78, .ofNat 273, []), (.ofNat 11, []), 1, .ofNat 2, []), ((78, .ofNat 273, []), (.ofNat 4, []), 1, .ofNat 0, [(.ofNat 1, 21)]), ((78, .ofNat 273, []), (.ofNat 12, []), 1, .ofNat 0, [(.ofNat 1, 22)]), ((78, .ofNat 273, []), (.ofNat 14, []), 1, .ofNat 0, [(.ofNat 1, 20)]), ((81, .ofNat 276, []), (.ofNat 6, []), 1, .ofNat 0, [(.ofNat 1, 6)]), ((81, .ofNat 276, []), (.ofNat 1, []), 1, .ofNat 0, [(.ofNat 1, 5)]), ((81, .ofNat 276, []), (.ofNat 0, []), 1, .ofNat 0, [(.ofNat 1, 4)]), ((81, .ofNat 276, []), (.ofNat 400, []), 1, .ofNat 0, [(.ofNat 1, 3)]), ((81, .ofNat 276, []), (.ofNat 5, []), 1, .ofNat 0, [(.ofNat 1, 2)]), ((78, .ofNat 273, []), (.ofNat 7, []), 97, .ofNat 276, []), ((81, .ofNat 276, []), (.ofNat 300, [(.ofNat 1, 8), (.ofNat 10, 20)]), 1, .ofNat 0, [(.ofNat 1, 23)])], [(175, [(.ofNat 0, [(.ofNat 1, 11)]), (.ofNat 0, [(.ofNat 1, 4)]), (.ofNat 0, [(.ofNat 1, 5)])]), (159, [(.ofNat 0, [(.ofNat 1, 2)]), (.ofNat 0, [(.ofNat 1, 11)])]), (162, [(.ofNat 0, [(.ofNat 1, 11)])]), (119, [(.ofNat 0, [(.ofNat 1, 1)]), (.ofNat 22, []), (.ofNat 0, [(.ofNat 1, 11)]), (.ofNat 0, []), (.ofNat 0, [(.ofNat 1, 8)]), (.ofNat 0, []), (.ofNat 0, []), (.ofNat 0, []), (.ofNat 0, []), (.ofNat 2, []), (.ofNat 0, [(.ofNat 1, 22)]), (.ofNat 0, [(.ofNat 1, 21)]), (.ofNat 0, [(.ofNat 1, 20)])]), (121, [(.ofNat 0, [(.ofNat 1, 1)]), (.ofNat 0, []), (.negSucc 0, [(.ofNat 1, 5)])]), (150, [(.ofNat 0, [(.ofNat 1, 1)])]), (161, [(.ofNat 0, [(.ofNat 1, 19)]), (.ofNat 0, [(.ofNat 1, 18)]), (.ofNat 0, [(.ofNat 1, 11)]), (.ofNat 0, [(.ofNat 1, 8)]), (.ofNat 0, [(.ofNat 1, 20)])])])), (.ofNat 14, [(.negSucc 0, 19)]))], [(72, false)], [(0, [[420, 421]]), (23, [[422, 423]]), (69, [[424, 425]]), (83, [[426], [427], [428]]), (126, [[429, 430, 431, 432, 433, 434]]), (132, [[426], [435, 436]]), (136, [[437, 438]]), (146, [[439]]), (165, [[440]]), (237, [[441, 442]])], [], [(10, [449]), (33, [450, 451, 452, 453, 454]), (138, [386]), (238, [377])], [])
theorem gK455 : cChk 455 gCT gRU gC455 3 gH455 3000 = true := by decide +kernel
end CkChk34
