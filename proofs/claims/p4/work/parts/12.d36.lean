section CkChk36
noncomputable def gH493 : sHt := ([(16, ((13, [(0, .ofNat 0, .ofNat 940), (1, .ofNat 0, .ofNat 940), (2, .negSucc 2147483647, .ofNat 2147483647), (3, .ofNat 0, .ofNat 940), (4, .ofNat 0, .ofNat 26), (5, .ofNat 0, .ofNat 1000), (6, .negSucc 0, .ofNat 99), (7, .negSucc 0, .ofNat 99), (8, .negSucc 0, .ofNat 99), (9, .negSucc 0, .ofNat 99), (10, .ofNat 0, .ofNat 940), (11, .ofNat 0, .ofNat 940), (12, .ofNat 0, .ofNat 30)], [], []), [(94, .ofNat 273, []), (1, .ofNat 0, []), (1, .ofNat 0, [(.ofNat 1, 12)])], ([((78, .ofNat 273, []), (.ofNat 14, []), 1, .ofNat 0, [(.ofNat 1, 2)]), ((78, .ofNat 273, []), (.ofNat 4, []), 1, .ofNat 0, [(.ofNat 1, 1)]), ((78, .ofNat 273, []), (.ofNat 12, []), 1, .ofNat 0, [(.ofNat 1, 0)]), ((78, .ofNat 273, []), (.ofNat 11, []), 1, .ofNat 3, [])], [(119, [(.ofNat 0, [(.ofNat 1, 3)]), (.ofNat 0, [(.ofNat 1, 4)]), (.ofNat 0, [(.ofNat 1, 5)]), (.ofNat 0, [(.ofNat 1, 6)]), (.ofNat 0, [(.ofNat 1, 7)]), (.ofNat 0, [(.ofNat 1, 8)]), (.ofNat 0, [(.ofNat 1, 9)]), (.ofNat 0, [(.ofNat 1, 10)]), (.ofNat 0, [(.ofNat 1, 11)]), (.ofNat 3, []), (.ofNat 0, [(.ofNat 1, 0)]), (.ofNat 0, [(.ofNat 1, 1)]), (.ofNat 0, [(.ofNat 1, 2)])]), (132, [])])), (.ofNat 30, [(.negSucc 0, 12)]))], [(16, false)], [(14, [[446]]), (22, [[447]]), (46, [[448, 449, 450, 451]]), (52, [[452], [453, 454]])], [], [], [])
theorem gK493 : cChk 493 gCT gRU gC493 2 gH493 3000 = true := by decide +kernel
noncomputable def gH494 : sHt := ([], [], [(7, [[455, 456]])], [], [(1, [493]), (9, [386])], [])
theorem gK494 : cChk 494 gCT gRU gC494 0 gH494 3000 = true := by decide +kernel
noncomputable def gH495 : sHt := ([(16, ((13, [(0, .ofNat 0, .ofNat 940), (1, .ofNat 0, .ofNat 940), (2, .ofNat 0, .ofNat 940), (3, .ofNat 0, .ofNat 26), (4, .ofNat 0, .ofNat 1000), (5, .negSucc 0, .ofNat 99), (6, .negSucc 0, .ofNat 99), (7, .negSucc 0, .ofNat 99), (8, .negSucc 0, .ofNat 99), (9, .ofNat 0, .ofNat 940), (10, .ofNat 0, .ofNat 940), (11, .negSucc 0, .ofNat 99), (12, .ofNat 0, .ofNat 30)], [], []), [(94, .ofNat 273, []), (1, .ofNat 0, []), (1, .ofNat 0, [(.ofNat 1, 12)])], ([((78, .ofNat 273, []), (.ofNat 4, []), 1, .ofNat 0, [(.ofNat 1, 1)]), ((78, .ofNat 273, []), (.ofNat 12, []), 1, .ofNat 0, [(.ofNat 1, 0)]), ((78, .ofNat 273, []), (.ofNat 11, []), 1, .ofNat 0, [])], [(119, [(.ofNat 0, [(.ofNat 1, 2)]), (.ofNat 0, [(.ofNat 1, 3)]), (.ofNat 0, [(.ofNat 1, 4)]), (.ofNat 0, [(.ofNat 1, 5)]), (.ofNat 0, [(.ofNat 1, 6)]), (.ofNat 0, [(.ofNat 1, 7)]), (.ofNat 0, [(.ofNat 1, 8)]), (.ofNat 0, [(.ofNat 1, 9)]), (.ofNat 0, [(.ofNat 1, 10)]), (.ofNat 0, []), (.ofNat 0, [(.ofNat 1, 0)]), (.ofNat 0, [(.ofNat 1, 1)]), (.ofNat 0, [(.ofNat 1, 11)])]), (132, [])])), (.ofNat 30, [(.negSucc 0, 12)]))], [(16, false)], [(14, [[446]]), (22, [[447]]), (46, [[448, 449, 450, 451]]), (52, [[452], [453, 454]])], [], [], [])
theorem gK495 : cChk 495 gCT gRU gC495 2 gH495 3000 = true := by decide +kernel
noncomputable def gH496 : sHt := ([], [], [(7, [[455]])], [], [(1, [495]), (9, [386])], [])
theorem gK496 : cChk 496 gCT gRU gC496 0 gH496 3000 = true := by decide +kernel
noncomputable def gH497 : sHt := ([(16, ((13, [(0, .ofNat 0, .ofNat 940), (1, .ofNat 0, .ofNat 940), (2, .ofNat 0, .ofNat 940), (3, .ofNat 0, .ofNat 26), (4, .ofNat 0, .ofNat 1000), (5, .negSucc 0, .ofNat 99), (6, .negSucc 0, .ofNat 99), (7, .negSucc 0, .ofNat 99), (8, .negSucc 0, .ofNat 99), (9, .ofNat 0, .ofNat 940), (10, .ofNat 0, .ofNat 940), (11, .negSucc 0, .ofNat 99), (12, .ofNat 0, .ofNat 30)], [], []), [(94, .ofNat 273, []), (1, .ofNat 0, []), (1, .ofNat 0, [(.ofNat 1, 12)])], ([((78, .ofNat 273, []), (.ofNat 4, []), 1, .ofNat 0, [(.ofNat 1, 1)]), ((78, .ofNat 273, []), (.ofNat 12, []), 1, .ofNat 0, [(.ofNat 1, 0)]), ((78, .ofNat 273, []), (.ofNat 11, []), 1, .ofNat 4, [])], [(119, [(.ofNat 0, [(.ofNat 1, 2)]), (.ofNat 0, [(.ofNat 1, 3)]), (.ofNat 0, [(.ofNat 1, 4)]), (.ofNat 0, [(.ofNat 1, 5)]), (.ofNat 0, [(.ofNat 1, 6)]), (.ofNat 0, [(.ofNat 1, 7)]), (.ofNat 0, [(.ofNat 1, 8)]), (.ofNat 0, [(.ofNat 1, 9)]), (.ofNat 0, [(.ofNat 1, 10)]), (.ofNat 4, []), (.ofNat 0, [(.ofNat 1, 0)]), (.ofNat 0, [(.ofNat 1, 1)]), (.ofNat 0, [(.ofNat 1, 11)])]), (132, [])])), (.ofNat 30, [(.negSucc 0, 12)]))], [(16, false)], [(14, [[446]]), (22, [[447]]), (46, [[448, 449, 450, 451]]), (52, [[452], [453, 454]])], [], [], [])
theorem gK497 : cChk 497 gCT gRU gC497 2 gH497 3000 = true := by decide +kernel
noncomputable def gH498 : sHt := ([], [], [(7, [[455, 456]])], [], [(1, [497]), (9, [386])], [])
theorem gK498 : cChk 498 gCT gRU gC498 0 gH498 3000 = true := by decide +kernel
noncomputable def gH499 : sHt := ([], [], [(7, [[481, 482]])], [], [(1, [468]), (9, [386])], [])
theorem gK499 : cChk 499 gCT gRU gC499 0 gH499 3000 = true := by decide +kernel
noncomputable def gH500 : sHt := ([(2, ((18, [(0, .ofNat 0, .ofNat 4), (1, .ofNat 0, .ofNat 940), (2, .ofNat 0, .ofNat 940), (3, .ofNat 0, .ofNat 4), (4, .ofNat 0, .ofNat 3), (5, .ofNat 0, .ofNat 5), (6, .ofNat 0, .ofNat 940), (7, .ofNat 0, .ofNat 26), (8, .ofNat 0, .ofNat 1000), (9, .negSucc 0, .ofNat 99), (10, .negSucc 0, .ofNat 99), (11, .negSucc 0, .ofNat 99), (12, .negSucc 0, .ofNat 99), (13, .ofNat 0, .ofNat 940), (14, .ofNat 0, .ofNat 940), (15, .negSucc 0, .ofNat 99), (16, .ofNat 0, .ofNat 4)], [(.ofNat 0, [(.ofNat 1, 0), (.negSucc 0, 3)]), (.ofNat 0, [(.negSucc 0, 0), (.ofNat 1, 3)])], []), [(94, .ofNat 273, []), (1, .ofNat 12, []), (1, .ofNat 0, [(.ofNat 1, 0)]), (1, .ofNat 0, [(.ofNat 1, 16)])], ([((78, .ofNat 273, []), (.ofNat 17, []), 5, .ofNat 0, [(.ofNat 1, 17)]), ((81, .ofNat 276, []), (.ofNat 4, []), 1, .ofNat 0, [(.ofNat 1, 5)]), ((81, .ofNat 276, []), (.ofNat 3, []), 1, .ofNat 0, [(.ofNat 1, 4)]), ((81, .ofNat 276, []), (.ofNat 2, []), 1, .ofNat 0, [(.ofNat 1, 3)]), ((78, .ofNat 273, []), (.ofNat 7, []), 97, .ofNat 276, []), ((78, .ofNat 273, []), (.ofNat 4, []), 1, .ofNat 0, [(.ofNat 1, 2)]), ((78, .ofNat 273, []), (.ofNat 12, []), 1, .ofNat 0, [(.ofNat 1, 1)]), ((78, .ofNat 273, []), (.ofNat 11, []), 1, .ofNat 1, [])], [(119, [(.ofNat 0, [(.ofNat 1, 6)]), (.ofNat 0, [(.ofNat 1, 7)]), (.ofNat 0, [(.ofNat 1, 8)]), (.ofNat 0, [(.ofNat 1, 9)]), (.ofNat 0, [(.ofNat 1, 10)]), (.ofNat 0, [(.ofNat 1, 11)]), (.ofNat 0, [(.ofNat 1, 12)]), (.ofNat 0, [(.ofNat 1, 13)]), (.ofNat 0, [(.ofNat 1, 14)]), (.ofNat 1, []), (.ofNat 0, [(.ofNat 1, 1)]), (.ofNat 0, [(.ofNat 1, 2)]), (.ofNat 0, [(.ofNat 1, 15)])]), (131, [(.ofNat 0, [(.ofNat 1, 1)]), (.ofNat 0, [(.ofNat 1, 2)])]), (143, [(.ofNat 0, [(.ofNat 1, 3)]), (.ofNat 0, [(.ofNat 1, 8)])]), (145, [(.ofNat 0, [(.ofNat 1, 4)]), (.ofNat 0, [(.ofNat 1, 8)])]), (147, [(.ofNat 0, [(.ofNat 1, 5)]), (.ofNat 0, [(.ofNat 1, 8)])]), (144, [(.ofNat 0, [(.ofNat 1, 16)]), (.ofNat 0, [(.ofNat 1, 17)])])])), (.ofNat 4, [(.negSucc 0, 16)]))], [(2, false)], [(0, [[458]]), (23, [[466]]), (25, [[461, 462]]), (31, [[470]])], [], [], [])
theorem gK500 : cChk 500 gCT gRU gC500 1 gH500 3000 = true := by decide +kernel
noncomputable def gH501 : sHt := ([(2, ((18, [(0, .ofNat 0, .ofNat 3), (1, .ofNat 0, .ofNat 940), (2, .ofNat 0, .ofNat 940), (3, .ofNat 0, .ofNat 4), (4, .ofNat 0, .ofNat 3), (5, .ofNat 0, .ofNat 5), (6, .ofNat 0, .ofNat 940), (7, .ofNat 0, .ofNat 26), (8, .ofNat 0, .ofNat 1000), (9, .negSucc 0, .ofNat 99), (10, .negSucc 0, .ofNat 99), (11, .negSucc 0, .ofNat 99), (12, .negSucc 0, .ofNat 99), (13, .ofNat 0, .ofNat 940), (14, .ofNat 0, .ofNat 940), (15, .negSucc 0, .ofNat 99), (16, .ofNat 0, .ofNat 3)], [(.ofNat 0, [(.ofNat 1, 0), (.negSucc 0, 4)]), (.ofNat 0, [(.negSucc 0, 0), (.ofNat 1, 4)])], []), [(94, .ofNat 273, []), (1, .ofNat 16, []), (1, .ofNat 0, [(.ofNat 1, 0)]), (1, .ofNat 0, [(.ofNat 1, 16)])], ([((78, .ofNat 273, []), (.ofNat 17, []), 5, .ofNat 0, [(.ofNat 1, 17)]), ((81, .ofNat 276, []), (.ofNat 4, []), 1, .ofNat 0, [(.ofNat 1, 5)]), ((81, .ofNat 276, []), (.ofNat 3, []), 1, .ofNat 0, [(.ofNat 1, 4)]), ((81, .ofNat 276, []), (.ofNat 2, []), 1, .ofNat 0, [(.ofNat 1, 3)]), ((78, .ofNat 273, []), (.ofNat 7, []), 97, .ofNat 276, []), ((78, .ofNat 273, []), (.ofNat 4, []), 1, .ofNat 0, [(.ofNat 1, 2)]), ((78, .ofNat 273, []), (.ofNat 12, []), 1, .ofNat 0, [(.ofNat 1, 1)]), ((78, .ofNat 273, []), (.ofNat 11, []), 1, .ofNat 1, [])], [(119, [(.ofNat 0, [(.ofNat 1, 6)]), (.ofNat 0, [(.ofNat 1, 7)]), (.ofNat 0, [(.ofNat 1, 8)]), (.ofNat 0, [(.ofNat 1, 9)]), (.ofNat 0, [(.ofNat 1, 10)]), (.ofNat 0, [(.ofNat 1, 11)]), (.ofNat 0, [(.ofNat 1, 12)]), (.ofNat 0, [(.ofNat 1, 13)]), (.ofNat 0, [(.ofNat 1, 14)]), (.ofNat 1, []), (.ofNat 0, [(.ofNat 1, 1)]), (.ofNat 0, [(.ofNat 1, 2)]), (.ofNat 0, [(.ofNat 1, 15)])]), (131, [(.ofNat 0, [(.ofNat 1, 1)]), (.ofNat 0, [(.ofNat 1, 2)])]), (143, [(.ofNat 0, [(.ofNat 1, 3)]), (.ofNat 0, [(.ofNat 1, 8)])]), (145, [(.ofNat 0, [(.ofNat 1, 4)]), (.ofNat 0, [(.ofNat 1, 8)])]), (147, [(.ofNat 0, [(.ofNat 1, 5)]), (.ofNat 0, [(.ofNat 1, 8)])]), (146, [(.ofNat 0, [(.ofNat 1, 16)]), (.ofNat 0, [(.ofNat 1, 17)])])])), (.ofNat 3, [(.negSucc 0, 16)]))], [(2, false)], [(0, [[458, 459]]), (23, [[466, 467]]), (25, [[461, 462, 463, 464]]), (31, [[470, 471]])], [], [], [])
theorem gK501 : cChk 501 gCT gRU gC501 1 gH501 3000 = true := by decide +kernel
noncomputable def gH502 : sHt := ([], [], [(7, [[481, 482, 483]]), (25, [[484]]), (40, [[485]]), (55, [[486]]), (58, [[492, 493, 494]]), (64, [[487]]), (74, [[488], [489, 490, 491]])], [], [(1, [470]), (9, [386]), (22, [500]), (37, [501]), (52, [471]), (60, [386]), (75, [377])], [])
theorem gK502 : cChk 502 gCT gRU gC502 0 gH502 3000 = true := by decide +kernel
noncomputable def gH503 : sHt := ([], [], [(8, [[386, 387]])], [], [(10, [386])], [])
theorem gK503 : cChk 503 gCT gRU gC503 0 gH503 3000 = true := by decide +kernel
noncomputable def gH504 : sHt := ([], [], [], [], [(3, [503])], [])
theorem gK504 : cChk 504 gCT gRU gC504 0 gH504 3000 = true := by decide +kernel
noncomputable def gH505 : sHt := ([], [], [(8, [[386]])], [], [(10, [386])], [])
theorem gK505 : cChk 505 gCT gRU gC505 0 gH505 3000 = true := by decide +kernel
noncomputable def gH506 : sHt := ([], [], [], [], [(3, [505])], [])
theorem gK506 : cChk 506 gCT gRU gC506 0 gH506 3000 = true := by decide +kernel
noncomputable def gH507 : sHt := ([], [], [(8, [[386, 387]])], [], [(10, [386])], [])
theorem gK507 : cChk 507 gCT gRU gC507 0 gH507 3000 = true := by decide +kernel
noncomputable def gH508 : sHt := ([], [], [], [], [(3, [507])], [])
theorem gK508 : cChk 508 gCT gRU gC508 0 gH508 3000 = true := by decide +kernel
noncomputable def gH509 : sHt := ([], [], [(8, [[386]])], [], [(10, [386])], [])
theorem gK509 : cChk 509 gCT gRU gC509 0 gH509 3000 = true := by decide +kernel
noncomputable def gH510 : sHt := ([], [], [], [], [(3, [509])], [])
theorem gK510 : cChk 510 gCT gRU gC510 0 gH510 3000 = true := by decide +kernel
noncomputable def gH511 : sHt := ([], [], [(34, [[388, 389]]), (42, [[390]])], [], [(28, [414]), (36, [386])], [])
theorem gK511 : cChk 511 gCT gRU gC511 0 gH511 3000 = true := by decide +kernel
noncomputable def gH512 : sHt := ([], [], [(11, [[403, 404, 405, 406, 407, 408]])], [], [(3, [511]), (12, [377])], [])
theorem gK512 : cChk 512 gCT gRU gC512 0 gH512 3000 = true := by decide +kernel
noncomputable def gH513 : sHt := ([], [], [(8, [[386, 387]])], [], [(10, [386])], [])
theorem gK513 : cChk 513 gCT gRU gC513 0 gH513 3000 = true := by decide +kernel
noncomputable def gH514 : sHt := ([], [], [], [], [(3, [513])], [])
theorem gK514 : cChk 514 gCT gRU gC514 0 gH514 3000 = true := by decide +kernel
noncomputable def gH515 : sHt := ([], [], [(8, [[386]])], [], [(10, [386])], [])
theorem gK515 : cChk 515 gCT gRU gC515 0 gH515 3000 = true := by decide +kernel
noncomputable def gH516 : sHt := ([], [], [], [], [(3, [515])], [])
theorem gK516 : cChk 516 gCT gRU gC516 0 gH516 3000 = true := by decide +kernel
noncomputable def gH517 : sHt := ([], [], [(8, [[386, 387]])], [], [(10, [386])], [])
theorem gK517 : cChk 517 gCT gRU gC517 0 gH517 3000 = true := by decide +kernel
noncomputable def gH518 : sHt := ([], [], [], [], [(3, [517])], [])
theorem gK518 : cChk 518 gCT gRU gC518 0 gH518 3000 = true := by decide +kernel
noncomputable def gH519 : sHt := ([], [], [(8, [[386]])], [], [(10, [386])], [])
theorem gK519 : cChk 519 gCT gRU gC519 0 gH519 3000 = true := by decide +kernel
noncomputable def gH520 : sHt := ([], [], [], [], [(3, [519])], [])
theorem gK520 : cChk 520 gCT gRU gC520 0 gH520 3000 = true := by decide +kernel
noncomputable def gH521 : sHt := ([], [], [(34, [[388, 389]]), (42, [[390]])], [], [(28, [414]), (36, [386])], [])
theorem gK521 : cChk 521 gCT gRU gC521 0 gH521 3000 = true := by decide +kernel
noncomputable def gH522 : sHt := ([], [], [(11, [[403, 404, 405, 406, 407, 408, 409]])], [], [(3, [521]), (12, [377])], [])
theorem gK522 : cChk 522 gCT gRU gC522 0 gH522 3000 = true := by decide +kernel
noncomputable def gH523 : sHt := ([], [], [(0, [[350, 353, 354, 355, 356, 357, 358, 359, 371, 372, 373, 374, 375, 498]]), (21, [[351, 352]])], [], [], [])
theorem gK523 : cChk 523 gCT gRU gC523 0 gH523 3000 = true := by decide +kernel
noncomputable def gH524 : sHt := ([], [], [(0, [[350, 353, 354, 355, 356, 357, 358, 359, 371, 372, 373, 374, 375, 498]]), (21, [[351, 352]])], [], [], [])
theorem gK524 : cChk 524 gCT gRU gC524 0 gH524 3000 = true := by decide +kernel
noncomputable def gH525 : sHt := ([], [], [(0, [[350, 353, 354, 355, 356, 357, 358, 359, 371, 372, 373, 374, 375, 498]]), (21, [[351, 352]])], [], [], [])
theorem gK525 : cChk 525 gCT gRU gC525 0 gH525 3000 = true := by decide +kernel
noncomputable def gH526 : sHt := ([], [], [(0, [[350, 353, 354, 355, 356, 357, 358, 359, 371, 372, 373, 374, 375, 498]]), (17, [[363]]), (21, [[351, 352]])], [], [], [])
theorem gK526 : cChk 526 gCT gRU gC526 0 gH526 3000 = true := by decide +kernel
noncomputable def gH527 : sHt := ([], [], [(0, [[350, 353, 354, 355, 356, 357, 358, 359, 371, 372, 373, 374, 375, 498]]), (21, [[351, 352]])], [], [], [])
theorem gK527 : cChk 527 gCT gRU gC527 0 gH527 3000 = true := by decide +kernel
noncomputable def gH528 : sHt := ([], [], [(7, [[481, 482]])], [], [(1, [493]), (9, [386])], [])
theorem gK528 : cChk 528 gCT gRU gC528 0 gH528 3000 = true := by decide +kernel
noncomputable def gH529 : sHt := ([], [], [(7, [[481]])], [], [(1, [495]), (9, [386])], [])
theorem gK529 : cChk 529 gCT gRU gC529 0 gH529 3000 = true := by decide +kernel
noncomputable def gH530 : sHt := ([], [], [(7, [[481, 482]])], [], [(1, [497]), (9, [386])], [])
theorem gK530 : cChk 530 gCT gRU gC530 0 gH530 3000 = true := by decide +kernel
noncomputable def gH531 : sHt := ([], [], [(12, [[478]]), (18, [[479]]), (22, [[480]]), (33, [[495]]), (59, [[496]]), (85, [[497]]), (120, [[506]]), (124, [[499, 500, 501, 502, 504, 505], [503]])], [], [(14, [386]), (19, [377]), (27, [499, 502, 528, 529, 530]), (37, [504, 506, 508, 510, 512]), (63, [514, 516, 518, 520, 522]), (98, [523, 524, 525, 526, 527]), (114, [523, 524, 525, 526, 527]), (121, [377])], [])
theorem gK531 : cChk 531 gCT gRU gC531 1 gH531 3000 = true := by decide +kernel
end CkChk36
