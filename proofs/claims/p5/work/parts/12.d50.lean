section CkChk50
noncomputable def gH683 : sHt := ([], [], [], [], [], [])
theorem gK683 : cChk 683 gCT gRU gC683 0 gH683 3000 = true := by decide +kernel
noncomputable def gH684 : sHt := ([], [], [], [], [(5, [683]), (13, [114]), (21, [403])], [])
theorem gK684 : cChk 684 gCT gRU gC684 0 gH684 3000 = true := by decide +kernel
noncomputable def gH685 : sHt := ([], [], [], [], [], [])
theorem gK685 : cChk 685 gCT gRU gC685 0 gH685 3000 = true := by decide +kernel
noncomputable def gH686 : sHt := ([], [], [], [], [(5, [685]), (13, [114]), (21, [406])], [])
theorem gK686 : cChk 686 gCT gRU gC686 0 gH686 3000 = true := by decide +kernel
noncomputable def gH687 : sHt := ([], [], [(32, [[456, 457, 497, 498]])], [], [(29, [684, 686])], [])
theorem gK687 : cChk 687 gCT gRU gC687 0 gH687 3000 = true := by decide +kernel
noncomputable def gH688 : sHt := ([], [], [], [], [(5, [683]), (13, [114]), (21, [409])], [])
theorem gK688 : cChk 688 gCT gRU gC688 0 gH688 3000 = true := by decide +kernel
noncomputable def gH689 : sHt := ([], [], [], [], [(5, [685]), (13, [114]), (21, [411])], [])
theorem gK689 : cChk 689 gCT gRU gC689 0 gH689 3000 = true := by decide +kernel
noncomputable def gH690 : sHt := ([], [], [(32, [[456, 457, 497, 498]])], [], [(29, [688, 689])], [])
theorem gK690 : cChk 690 gCT gRU gC690 0 gH690 3000 = true := by decide +kernel
noncomputable def gH691 : sHt := ([], [], [], [], [], [])
theorem gK691 : cChk 691 gCT gRU gC691 0 gH691 3000 = true := by decide +kernel
noncomputable def gH692 : sHt := ([], [], [], [], [(5, [691]), (13, [114]), (21, [415])], [])
theorem gK692 : cChk 692 gCT gRU gC692 0 gH692 3000 = true := by decide +kernel
noncomputable def gH693 : sHt := ([], [], [], [], [], [])
theorem gK693 : cChk 693 gCT gRU gC693 0 gH693 3000 = true := by decide +kernel
noncomputable def gH694 : sHt := ([], [], [], [], [(5, [693]), (13, [114]), (21, [418])], [])
theorem gK694 : cChk 694 gCT gRU gC694 0 gH694 3000 = true := by decide +kernel
noncomputable def gH695 : sHt := ([], [], [(44, [[462, 463, 499, 500]])], [], [(41, [692, 694]), (48, [84])], [])
theorem gK695 : cChk 695 gCT gRU gC695 0 gH695 3000 = true := by decide +kernel
noncomputable def gH696 : sHt := ([], [], [], [], [(5, [691]), (13, [114]), (21, [421])], [])
theorem gK696 : cChk 696 gCT gRU gC696 0 gH696 3000 = true := by decide +kernel
noncomputable def gH697 : sHt := ([], [], [], [], [(5, [693]), (13, [114]), (21, [423])], [])
theorem gK697 : cChk 697 gCT gRU gC697 0 gH697 3000 = true := by decide +kernel
noncomputable def gH698 : sHt := ([], [], [(44, [[462, 463, 499, 500]])], [], [(41, [696, 697]), (48, [84])], [])
theorem gK698 : cChk 698 gCT gRU gC698 0 gH698 3000 = true := by decide +kernel
noncomputable def gH699 : sHt := ([], [], [], [], [], [])
theorem gK699 : cChk 699 gCT gRU gC699 0 gH699 3000 = true := by decide +kernel
noncomputable def gH700 : sHt := ([], [], [(30, [[502, 503, 504, 505]])], [], [(17, [0]), (18, [0])], [])
theorem gK700 : cChk 700 gCT gRU gC700 1 gH700 3000 = true := by decide +kernel
noncomputable def gH701 : sHt := ([], [], [(30, [[502, 503, 504, 505]])], [], [(17, [0]), (18, [0])], [])
theorem gK701 : cChk 701 gCT gRU gC701 1 gH701 3000 = true := by decide +kernel
noncomputable def gH702 : sHt := ([], [], [(30, [[502, 503, 504, 505]])], [], [(17, [0]), (18, [0])], [])
theorem gK702 : cChk 702 gCT gRU gC702 1 gH702 3000 = true := by decide +kernel
noncomputable def gH703 : sHt := ([], [], [(30, [[502, 503, 504, 505]])], [], [(17, [0]), (18, [0])], [])
theorem gK703 : cChk 703 gCT gRU gC703 1 gH703 3000 = true := by decide +kernel
noncomputable def gH704 : sHt := ([], [], [(30, [[502, 503, 504, 505]])], [], [(17, [0]), (18, [0])], [])
theorem gK704 : cChk 704 gCT gRU gC704 1 gH704 3000 = true := by decide +kernel
noncomputable def gH705 : sHt := ([], [], [(0, [[501]]), (25, [[506]]), (30, [[507]]), (35, [[508]]), (41, [[509]]), (47, [[510], [511]])], [], [(22, [700]), (27, [701]), (32, [702]), (38, [703]), (44, [704])], [])
theorem gK705 : cChk 705 gCT gRU gC705 0 gH705 3000 = true := by decide +kernel
noncomputable def gH706 : sHt := ([], [], [], [], [], [])
theorem gK706 : cChk 706 gCT gRU gC706 0 gH706 3000 = true := by decide +kernel
noncomputable def gH707 : sHt := ([], [], [], [], [], [])
theorem gK707 : cChk 707 gCT gRU gC707 0 gH707 3000 = true := by decide +kernel
noncomputable def gH708 : sHt := ([], [], [(24, [[520]])], [], [(23, [0])], [])
theorem gK708 : cChk 708 gCT gRU gC708 0 gH708 3000 = true := by decide +kernel
noncomputable def gH709 : sHt := ([], [], [(0, [[539]])], [], [], [])
theorem gK709 : cChk 709 gCT gRU gC709 0 gH709 3000 = true := by decide +kernel
noncomputable def gH710 : sHt := ([], [], [(0, [[540]])], [], [], [])
theorem gK710 : cChk 710 gCT gRU gC710 0 gH710 3000 = true := by decide +kernel
noncomputable def gH711 : sHt := ([(181, ((22, [(0, .ofNat 0, .ofNat 939), (1, .ofNat 1, .ofNat 940), (2, .ofNat 1, .ofNat 940), (3, .ofNat 0, .ofNat 26), (4, .ofNat 0, .ofNat 2000), (5, .negSucc 0, .ofNat 99), (6, .negSucc 0, .ofNat 99), (7, .negSucc 0, .ofNat 99), (8, .negSucc 0, .ofNat 99), (9, .ofNat 0, .ofNat 940), (10, .ofNat 0, .ofNat 940), (11, .ofNat 48, .ofNat 122), (12, .ofNat 0, .ofNat 1), (13, .ofNat 0, .ofNat 1), (14, .ofNat 0, .ofNat 814), (15, .ofNat 0, .ofNat 72057594037927802), (16, .ofNat 0, .ofNat 940), (17, .ofNat 0, .ofNat 939), (18, .ofNat 0, .ofNat 940), (19, .ofNat 0, .ofNat 939), (20, .ofNat 48, .ofNat 122), (21, .ofNat 48, .ofNat 122)], [(.ofNat 1, [(.ofNat 1, 0), (.negSucc 0, 1)]), (.ofNat 0, [(.ofNat 1, 0), (.negSucc 0, 18)])], []), [(94, .ofNat 273, []), (1, .ofNat 0, [(.ofNat 1, 11)]), (1, .ofNat 0, [(.ofNat 1, 12)]), (1, .ofNat 0, [(.ofNat 1, 13)])], ([((78, .ofNat 273, []), (.ofNat 14, []), 1, .ofNat 0, [(.ofNat 1, 14)]), ((78, .ofNat 273, []), (.ofNat 17, []), 5, .ofNat 0, [(.ofNat 1, 15)]), ((78, .ofNat 273, []), (.ofNat 13, []), 1, .ofNat 0, [(.ofNat 1, 16)]), ((78, .ofNat 273, []), (.ofNat 12, []), 1, .ofNat 0, [(.ofNat 1, 17)]), ((78, .ofNat 273, []), (.ofNat 5, []), 1, .ofNat 0, [(.ofNat 1, 2)]), ((78, .ofNat 273, []), (.ofNat 3, []), 1, .ofNat 0, [(.ofNat 1, 1)]), ((78, .ofNat 273, []), (.ofNat 4, []), 1, .ofNat 0, [(.ofNat 1, 18)])], [(118, [(.ofNat 0, [(.ofNat 1, 0)]), (.ofNat 0, [(.ofNat 1, 3)]), (.ofNat 0, [(.ofNat 1, 4)]), (.ofNat 0, [(.ofNat 1, 5)]), (.ofNat 0, [(.ofNat 1, 6)]), (.ofNat 0, [(.ofNat 1, 7)]), (.ofNat 0, [(.ofNat 1, 8)]), (.ofNat 0, [(.ofNat 1, 9)]), (.ofNat 0, [(.ofNat 1, 10)])]), (109, [(.ofNat 0, [(.ofNat 1, 0)]), (.ofNat 0, [(.ofNat 1, 17)])]), (113, [(.ofNat 0, [(.ofNat 1, 19)]), (.ofNat 0, [(.ofNat 1, 20)])]), (110, [(.ofNat 0, [(.ofNat 1, 0)]), (.ofNat 0, [(.ofNat 1, 17)])]), (112, [(.ofNat 0, [(.ofNat 1, 19)]), (.ofNat 0, [(.ofNat 1, 21)])]), (111, [(.ofNat 0, [(.ofNat 1, 0)]), (.ofNat 0, [(.ofNat 1, 17)])]), (114, [(.ofNat 0, [(.ofNat 1, 17)]), (.ofNat 0, [(.ofNat 1, 18)]), (.ofNat 0, [(.ofNat 1, 16)]), (.ofNat 0, [(.ofNat 1, 12)]), (.ofNat 0, [(.ofNat 1, 13)]), (.ofNat 0, [(.ofNat 1, 14)]), (.ofNat 0, [(.ofNat 1, 15)])])])), (.ofNat 941, [(.negSucc 0, 16)])), (0, ((13, [(0, .ofNat 0, .ofNat 939), (1, .ofNat 1, .ofNat 940), (2, .ofNat 0, .ofNat 940), (3, .ofNat 0, .ofNat 26), (4, .ofNat 0, .ofNat 2000), (5, .negSucc 0, .ofNat 99), (6, .negSucc 0, .ofNat 99), (7, .negSucc 0, .ofNat 99), (8, .negSucc 0, .ofNat 99), (9, .ofNat 0, .ofNat 940), (10, .ofNat 0, .ofNat 940), (11, .ofNat 1, .ofNat 940), (12, .ofNat 10, .ofNat 32)], [(.ofNat 1, [(.ofNat 1, 0), (.negSucc 0, 1)]), (.ofNat 0, [(.ofNat 1, 0), (.negSucc 0, 11)])], []), [(94, .ofNat 273, []), (0, .ofNat 0, []), (0, .ofNat 0, []), (0, .ofNat 0, [])], ([((78, .ofNat 273, []), (.ofNat 4, []), 1, .ofNat 0, [(.ofNat 1, 11)]), ((78, .ofNat 273, []), (.ofNat 5, []), 1, .ofNat 0, [(.ofNat 1, 2)]), ((78, .ofNat 273, []), (.ofNat 3, []), 1, .ofNat 0, [(.ofNat 1, 1)])], [(118, [(.ofNat 0, [(.ofNat 1, 0)]), (.ofNat 0, [(.ofNat 1, 3)]), (.ofNat 0, [(.ofNat 1, 4)]), (.ofNat 0, [(.ofNat 1, 5)]), (.ofNat 0, [(.ofNat 1, 6)]), (.ofNat 0, [(.ofNat 1, 7)]), (.ofNat 0, [(.ofNat 1, 8)]), (.ofNat 0, [(.ofNat 1, 9)]), (.ofNat 0, [(.ofNat 1, 10)])]), (112, [(.negSucc 0, [(.ofNat 1, 11)]), (.ofNat 0, [(.ofNat 1, 12)])]), (113, [(.negSucc 0, [(.ofNat 1, 11)]), (.ofNat 0, [(.ofNat 1, 12)])]), (109, [(.ofNat 0, [(.ofNat 1, 0)]), (.ofNat 0, [(.ofNat 1, 11)])])])), (.ofNat 1881, [(.negSucc 0, 11)]))], [(0, false), (181, false)], [(0, [[518, 519]]), (4, [[521, 522], [523]]), (13, [[521, 522]]), (18, [[550, 551]]), (31, [[524, 525, 526, 527]]), (66, [[528]]), (79, [[529], [530], [531], [532], [533], [534]]), (84, [[521, 522]]), (89, [[535]]), (94, [[529], [530], [531], [532], [533], [534]]), (95, [[536, 537], [538]]), (148, [[541, 542, 543, 544, 545, 546, 547]]), (163, [[529], [530], [531], [532], [533], [534]]), (169, [[548, 549]]), (181, [[552]]), (185, [[521, 522]]), (195, [[521, 522]]), (201, [[553], [554], [555], [556], [557]]), (209, [[521]]), (243, [[521]]), (268, [[521]]), (285, [[558], [559, 560, 561, 566, 567, 568, 574, 575, 576, 577, 578, 579, 580, 581, 582, 583, 584, 585]]), (298, [[562, 563, 569, 570]]), (336, [[564, 565, 571, 572, 573], [529], [530], [531], [532], [533], [534]])], [], [(1, [708]), (10, [708]), (81, [708]), (96, [709]), (103, [710]), (165, [709]), (182, [708]), (185, [709]), (192, [708]), (195, [710]), (206, [708]), (209, [709]), (240, [708]), (265, [708])], [])
theorem gK711 : cChk 711 gCT gRU gC711 3 gH711 3000 = true := by decide +kernel
end CkChk50
