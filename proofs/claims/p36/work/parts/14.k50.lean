section CkChk50
noncomputable def gH682 : sHt := ([], [], [], [], [], [])
theorem gK682 : cChk 682 gCT gRU gC682 0 gH682 3000 = true := by decide +kernel
noncomputable def gH683 : sHt := ([], [], [], [], [(5, [682]), (13, [114]), (21, [402])], [])
theorem gK683 : cChk 683 gCT gRU gC683 0 gH683 3000 = true := by decide +kernel
noncomputable def gH684 : sHt := ([], [], [], [], [], [])
theorem gK684 : cChk 684 gCT gRU gC684 0 gH684 3000 = true := by decide +kernel
noncomputable def gH685 : sHt := ([], [], [], [], [(5, [684]), (13, [114]), (21, [405])], [])
theorem gK685 : cChk 685 gCT gRU gC685 0 gH685 3000 = true := by decide +kernel
noncomputable def gH686 : sHt := ([], [], [(32, [[404, 405, 442, 443]])], [], [(29, [683, 685])], [])
theorem gK686 : cChk 686 gCT gRU gC686 0 gH686 3000 = true := by decide +kernel
noncomputable def gH687 : sHt := ([], [], [], [], [(5, [682]), (13, [114]), (21, [408])], [])
theorem gK687 : cChk 687 gCT gRU gC687 0 gH687 3000 = true := by decide +kernel
noncomputable def gH688 : sHt := ([], [], [], [], [(5, [684]), (13, [114]), (21, [410])], [])
theorem gK688 : cChk 688 gCT gRU gC688 0 gH688 3000 = true := by decide +kernel
noncomputable def gH689 : sHt := ([], [], [(32, [[404, 405, 442, 443]])], [], [(29, [687, 688])], [])
theorem gK689 : cChk 689 gCT gRU gC689 0 gH689 3000 = true := by decide +kernel
noncomputable def gH690 : sHt := ([], [], [], [], [], [])
theorem gK690 : cChk 690 gCT gRU gC690 0 gH690 3000 = true := by decide +kernel
noncomputable def gH691 : sHt := ([], [], [], [], [(5, [690]), (13, [114]), (21, [414])], [])
theorem gK691 : cChk 691 gCT gRU gC691 0 gH691 3000 = true := by decide +kernel
noncomputable def gH692 : sHt := ([], [], [], [], [], [])
theorem gK692 : cChk 692 gCT gRU gC692 0 gH692 3000 = true := by decide +kernel
noncomputable def gH693 : sHt := ([], [], [], [], [(5, [692]), (13, [114]), (21, [417])], [])
theorem gK693 : cChk 693 gCT gRU gC693 0 gH693 3000 = true := by decide +kernel
noncomputable def gH694 : sHt := ([], [], [(44, [[410, 411, 444, 445]])], [], [(41, [691, 693]), (48, [84])], [])
theorem gK694 : cChk 694 gCT gRU gC694 0 gH694 3000 = true := by decide +kernel
noncomputable def gH695 : sHt := ([], [], [], [], [(5, [690]), (13, [114]), (21, [420])], [])
theorem gK695 : cChk 695 gCT gRU gC695 0 gH695 3000 = true := by decide +kernel
noncomputable def gH696 : sHt := ([], [], [], [], [(5, [692]), (13, [114]), (21, [422])], [])
theorem gK696 : cChk 696 gCT gRU gC696 0 gH696 3000 = true := by decide +kernel
noncomputable def gH697 : sHt := ([], [], [(44, [[410, 411, 444, 445]])], [], [(41, [695, 696]), (48, [84])], [])
theorem gK697 : cChk 697 gCT gRU gC697 0 gH697 3000 = true := by decide +kernel
noncomputable def gH698 : sHt := ([], [], [], [], [], [])
theorem gK698 : cChk 698 gCT gRU gC698 0 gH698 3000 = true := by decide +kernel
noncomputable def gH699 : sHt := ([], [], [(30, [[447, 448, 449, 450]])], [], [(17, [0]), (18, [0])], [])
theorem gK699 : cChk 699 gCT gRU gC699 1 gH699 3000 = true := by decide +kernel
noncomputable def gH700 : sHt := ([], [], [(30, [[447, 448, 449, 450]])], [], [(17, [0]), (18, [0])], [])
theorem gK700 : cChk 700 gCT gRU gC700 1 gH700 3000 = true := by decide +kernel
noncomputable def gH701 : sHt := ([], [], [(30, [[447, 448, 449, 450]])], [], [(17, [0]), (18, [0])], [])
theorem gK701 : cChk 701 gCT gRU gC701 1 gH701 3000 = true := by decide +kernel
noncomputable def gH702 : sHt := ([], [], [(30, [[447, 448, 449, 450]])], [], [(17, [0]), (18, [0])], [])
theorem gK702 : cChk 702 gCT gRU gC702 1 gH702 3000 = true := by decide +kernel
noncomputable def gH703 : sHt := ([], [], [(30, [[447, 448, 449, 450]])], [], [(17, [0]), (18, [0])], [])
theorem gK703 : cChk 703 gCT gRU gC703 1 gH703 3000 = true := by decide +kernel
noncomputable def gH704 : sHt := ([], [], [(0, [[446]]), (25, [[451]]), (30, [[452]]), (35, [[453]]), (41, [[454]]), (47, [[455], [456]])], [], [(22, [699]), (27, [700]), (32, [701]), (38, [702]), (44, [703])], [])
theorem gK704 : cChk 704 gCT gRU gC704 0 gH704 3000 = true := by decide +kernel
noncomputable def gH705 : sHt := ([], [], [], [], [], [])
theorem gK705 : cChk 705 gCT gRU gC705 0 gH705 3000 = true := by decide +kernel
noncomputable def gH706 : sHt := ([], [], [], [], [], [])
theorem gK706 : cChk 706 gCT gRU gC706 0 gH706 3000 = true := by decide +kernel
noncomputable def gH707 : sHt := ([], [], [(24, [[465]])], [], [(23, [0])], [])
theorem gK707 : cChk 707 gCT gRU gC707 0 gH707 3000 = true := by decide +kernel
noncomputable def gH708 : sHt := ([], [], [(0, [[482]])], [], [], [])
theorem gK708 : cChk 708 gCT gRU gC708 0 gH708 3000 = true := by decide +kernel
noncomputable def gH709 : sHt := ([], [], [(0, [[483]])], [], [], [])
theorem gK709 : cChk 709 gCT gRU gC709 0 gH709 3000 = true := by decide +kernel
noncomputable def gH710 : sHt := ([(181, ((22, [(0, .ofNat 0, .ofNat 939), (1, .ofNat 1, .ofNat 940), (2, .ofNat 1, .ofNat 940), (3, .ofNat 0, .ofNat 26), (4, .ofNat 0, .ofNat 2000), (5, .negSucc 0, .ofNat 99), (6, .negSucc 0, .ofNat 99), (7, .negSucc 0, .ofNat 99), (8, .negSucc 0, .ofNat 99), (9, .ofNat 0, .ofNat 940), (10, .ofNat 0, .ofNat 940), (11, .ofNat 48, .ofNat 122), (12, .ofNat 0, .ofNat 1), (13, .ofNat 0, .ofNat 1), (14, .ofNat 0, .ofNat 814), (15, .ofNat 0, .ofNat 72057594037927802), (16, .ofNat 0, .ofNat 940), (17, .ofNat 0, .ofNat 939), (18, .ofNat 0, .ofNat 940), (19, .ofNat 0, .ofNat 939), (20, .ofNat 48, .ofNat 122), (21, .ofNat 48, .ofNat 122)], [(.ofNat 1, [(.ofNat 1, 0), (.negSucc 0, 1)]), (.ofNat 0, [(.ofNat 1, 0), (.negSucc 0, 18)])], []), [(94, .ofNat 273, []), (1, .ofNat 0, [(.ofNat 1, 11)]), (1, .ofNat 0, [(.ofNat 1, 12)]), (1, .ofNat 0, [(.ofNat 1, 13)])], ([((78, .ofNat 273, []), (.ofNat 14, []), 1, .ofNat 0, [(.ofNat 1, 14)]), ((78, .ofNat 273, []), (.ofNat 17, []), 5, .ofNat 0, [(.ofNat 1, 15)]), ((78, .ofNat 273, []), (.ofNat 13, []), 1, .ofNat 0, [(.ofNat 1, 16)]), ((78, .ofNat 273, []), (.ofNat 12, []), 1, .ofNat 0, [(.ofNat 1, 17)]), ((78, .ofNat 273, []), (.ofNat 5, []), 1, .ofNat 0, [(.ofNat 1, 2)]), ((78, .ofNat 273, []), (.ofNat 3, []), 1, .ofNat 0, [(.ofNat 1, 1)]), ((78, .ofNat 273, []), (.ofNat 4, []), 1, .ofNat 0, [(.ofNat 1, 18)])], [(118, [(.ofNat 0, [(.ofNat 1, 0)]), (.ofNat 0, [(.ofNat 1, 3)]), (.ofNat 0, [(.ofNat 1, 4)]), (.ofNat 0, [(.ofNat 1, 5)]), (.ofNat 0, [(.ofNat 1, 6)]), (.ofNat 0, [(.ofNat 1, 7)]), (.ofNat 0, [(.ofNat 1, 8)]), (.ofNat 0, [(.ofNat 1, 9)]), (.ofNat 0, [(.ofNat 1, 10)])]), (109, [(.ofNat 0, [(.ofNat 1, 0)]), (.ofNat 0, [(.ofNat 1, 17)])]), (113, [(.ofNat 0, [(.ofNat 1, 19)]), (.ofNat 0, [(.ofNat 1, 20)])]), (110, [(.ofNat 0, [(.ofNat 1, 0)]), (.ofNat 0, [(.ofNat 1, 17)])]), (112, [(.ofNat 0, [(.ofNat 1, 19)]), (.ofNat 0, [(.ofNat 1, 21)])]), (111, [(.ofNat 0, [(.ofNat 1, 0)]), (.ofNat 0, [(.ofNat 1, 17)])]), (114, [(.ofNat 0, [(.ofNat 1, 17)]), (.ofNat 0, [(.ofNat 1, 18)]), (.ofNat 0, [(.ofNat 1, 16)]), (.ofNat 0, [(.ofNat 1, 12)]), (.ofNat 0, [(.ofNat 1, 13)]), (.ofNat 0, [(.ofNat 1, 14)]), (.ofNat 0, [(.ofNat 1, 15)])])])), (.ofNat 941, [(.negSucc 0, 16)])), (0, ((13, [(0, .ofNat 0, .ofNat 939), (1, .ofNat 1, .ofNat 940), (2, .ofNat 0, .ofNat 940), (3, .ofNat 0, .ofNat 26), (4, .ofNat 0, .ofNat 2000), (5, .negSucc 0, .ofNat 99), (6, .negSucc 0, .ofNat 99), (7, .negSucc 0, .ofNat 99), (8, .negSucc 0, .ofNat 99), (9, .ofNat 0, .ofNat 940), (10, .ofNat 0, .ofNat 940), (11, .ofNat 1, .ofNat 940), (12, .ofNat 10, .ofNat 32)], [(.ofNat 1, [(.ofNat 1, 0), (.negSucc 0, 1)]), (.ofNat 0, [(.ofNat 1, 0), (.negSucc 0, 11)])], []), [(94, .ofNat 273, []), (0, .ofNat 0, []), (0, .ofNat 0, []), (0, .ofNat 0, [])], ([((78, .ofNat 273, []), (.ofNat 4, []), 1, .ofNat 0, [(.ofNat 1, 11)]), ((78, .ofNat 273, []), (.ofNat 5, []), 1, .ofNat 0, [(.ofNat 1, 2)]), ((78, .ofNat 273, []), (.ofNat 3, []), 1, .ofNat 0, [(.ofNat 1, 1)])], [(118, [(.ofNat 0, [(.ofNat 1, 0)]), (.ofNat 0, [(.ofNat 1, 3)]), (.ofNat 0, [(.ofNat 1, 4)]), (.ofNat 0, [(.ofNat 1, 5)]), (.ofNat 0, [(.ofNat 1, 6)]), (.ofNat 0, [(.ofNat 1, 7)]), (.ofNat 0, [(.ofNat 1, 8)]), (.ofNat 0, [(.ofNat 1, 9)]), (.ofNat 0, [(.ofNat 1, 10)])]), (112, [(.negSucc 0, [(.ofNat 1, 11)]), (.ofNat 0, [(.ofNat 1, 12)])]), (113, [(.negSucc 0, [(.ofNat 1, 11)]), (.ofNat 0, [(.ofNat 1, 12)])]), (109, [(.ofNat 0, [(.ofNat 1, 0)]), (.ofNat 0, [(.ofNat 1, 11)])])])), (.ofNat 1881, [(.negSucc 0, 11)]))], [(0, false), (181, false)], [(0, [[463, 464]]), (4, [[466, 467], [468]]), (13, [[466, 467]]), (18, [[493, 494]]), (31, [[469, 470, 471, 472]]), (66, [[473]]), (79, [[474], [475], [476], [477]]), (84, [[466, 467]]), (89, [[478]]), (94, [[474], [475], [476], [477]]), (95, [[479, 480], [481]]), (148, [[484, 485, 486, 487, 488, 489, 490]]), (163, [[474], [475], [476], [477]]), (169, [[491, 492]]), (181, [[495]]), (185, [[466, 467]]), (195, [[466, 467]]), (201, [[496], [497], [498], [499], [500]]), (209, [[466]]), (243, [[466]]), (268, [[466]]), (285, [[501], [502, 503, 504, 509, 510, 511, 517, 518, 519, 520, 521, 522, 523, 524, 525, 526, 527, 528]]), (298, [[505, 506, 512, 513]]), (336, [[507, 508, 514, 515, 516], [474], [475], [476], [477]])], [], [(1, [707]), (10, [707]), (81, [707]), (96, [708]), (103, [709]), (165, [708]), (182, [707]), (185, [708]), (192, [707]), (195, [709]), (206, [707]), (209, [708]), (240, [707]), (265, [707])], [])
theorem gK710 : cChk 710 gCT gRU gC710 3 gH710 3000 = true := by decide +kernel
end CkChk50
