section CkChk49
noncomputable def gH795 : sHt := ([(0, ((6, [(0, .ofNat 0, .ofNat 39), (1, .ofNat 1, .ofNat 40), (2, .ofNat 1, .ofNat 19), (3, .ofNat 1, .ofNat 40), (4, .ofNat 0, .ofNat 39), (5, .ofNat 0, .ofNat 18)], [(.negSucc 39, [(.ofNat 1, 0), (.ofNat 1, 1)]), (.ofNat 0, [(.negSucc 0, 0), (.negSucc 0, 1), (.ofNat 1, 3), (.ofNat 1, 4)]), (.negSucc 39, [(.ofNat 1, 3), (.ofNat 1, 4)]), (.ofNat 0, [(.negSucc 0, 2), (.ofNat 1, 5)]), (.ofNat 0, [(.negSucc 0, 1), (.ofNat 1, 4)])], []), [(94, .ofNat 273, []), (1, .ofNat 21, [])], ([((78, .ofNat 273, []), (.ofNat 48, []), 1, .ofNat 0, [(.ofNat 1, 3)]), ((78, .ofNat 273, []), (.ofNat 50, []), 1, .ofNat 0, [(.ofNat 1, 4)]), ((78, .ofNat 273, []), (.ofNat 47, []), 108, .ofNat 287, []), ((92, .ofNat 287, []), (.negSucc 0, [(.ofNat 1, 1)]), 1, .ofNat 21, [])], [(15, [(.ofNat 0, [(.ofNat 1, 4)]), (.ofNat 0, [(.ofNat 1, 5)])]), (14, [(.ofNat 0, [(.ofNat 1, 3)]), (.ofNat 1, [(.ofNat 1, 5)])])])), (.ofNat 41, [(.negSucc 0, 3)]))], [(0, false)], [(7, [[587]]), (45, [[591]]), (73, [[588], [589], [590]])], [], [(67, [792])], [])
theorem gK795 : cChk 795 gCT gRU gC795 0 gH795 3000 = true := by decide +kernel
noncomputable def gH796 : sHt := ([], [], [(0, [[350, 353, 354, 355, 356, 357, 358, 359, 371, 372, 373, 374, 375, 498]]), (17, [[363]]), (21, [[351, 352]])], [], [], [])
theorem gK796 : cChk 796 gCT gRU gC796 0 gH796 3000 = true := by decide +kernel
noncomputable def gH797 : sHt := ([], [], [(0, [[542]])], [], [], [])
theorem gK797 : cChk 797 gCT gRU gC797 0 gH797 3000 = true := by decide +kernel
noncomputable def gH798 : sHt := ([], [], [(71, [[592]]), (120, [[593]])], [], [(1, [791]), (8, [794]), (18, [796]), (29, [794]), (42, [795, 793]), (57, [794]), (87, [716]), (95, [793]), (101, [797]), (116, [386]), (141, [716])], [])
theorem gK798 : cChk 798 gCT gRU gC798 0 gH798 3000 = true := by decide +kernel
noncomputable def gH799 : sHt := ([], [], [(0, [[350, 353, 354, 355, 356, 357, 358, 359, 371, 372, 373, 374, 375, 498]]), (17, [[363]]), (21, [[351, 352]])], [], [], [])
theorem gK799 : cChk 799 gCT gRU gC799 0 gH799 3000 = true := by decide +kernel
noncomputable def gH800 : sHt := ([], [], [(0, [[542]])], [], [], [])
theorem gK800 : cChk 800 gCT gRU gC800 0 gH800 3000 = true := by decide +kernel
noncomputable def gH801 : sHt := ([], [], [(0, [[350, 353, 354, 355, 356, 357, 358, 359, 371, 372, 373, 374, 375, 498]]), (17, [[363]]), (21, [[351, 352]])], [], [], [])
theorem gK801 : cChk 801 gCT gRU gC801 0 gH801 3000 = true := by decide +kernel
noncomputable def gH802 : sHt := ([], [], [(0, [[350, 353, 354, 355, 356, 357, 358, 359, 371, 372, 373, 374, 375, 498]]), (17, [[363]]), (21, [[351, 352]])], [], [], [])
theorem gK802 : cChk 802 gCT gRU gC802 0 gH802 3000 = true := by decide +kernel
noncomputable def gH803 : sHt := ([], [], [(0, [[350, 353, 354, 355, 356, 357, 358, 359, 371, 372, 373, 374, 375, 498]]), (17, [[363]]), (21, [[351, 352]])], [], [], [])
theorem gK803 : cChk 803 gCT gRU gC803 0 gH803 3000 = true := by decide +kernel
noncomputable def gH804 : sHt := ([], [], [(0, [[350, 353, 354, 355, 356, 357, 358, 359, 371, 372, 373, 374, 375, 498]]), (17, [[363]]), (21, [[351, 352]])], [], [], [])
theorem gK804 : cChk 804 gCT gRU gC804 0 gH804 3000 = true := by decide +kernel
noncomputable def gH805 : sHt := ([], [], [(0, [[350, 353, 354, 355, 356, 357, 358, 359, 371, 372, 373, 374, 375, 498]]), (17, [[363]]), (21, [[351, 352]])], [], [], [])
theorem gK805 : cChk 805 gCT gRU gC805 0 gH805 3000 = true := by decide +kernel
noncomputable def gH806 : sHt := ([], [], [(0, [[350, 353, 354, 355, 356, 357, 358, 359, 371, 372, 373, 374, 375, 498]]), (17, [[363]]), (21, [[351, 352]])], [], [], [])
theorem gK806 : cChk 806 gCT gRU gC806 0 gH806 3000 = true := by decide +kernel
noncomputable def gH807 : sHt := ([], [], [(0, [[350, 353, 354, 355, 356, 357, 358, 359, 371, 372, 373, 374, 375, 498]]), (17, [[363]]), (21, [[351, 352]])], [], [], [])
theorem gK807 : cChk 807 gCT gRU gC807 0 gH807 3000 = true := by decide +kernel
noncomputable def gH808 : sHt := ([], [], [(0, [[350, 353, 354, 355, 356, 357, 358, 359, 371, 372, 373, 374, 375, 498]]), (17, [[363]]), (21, [[351, 352]])], [], [], [])
theorem gK808 : cChk 808 gCT gRU gC808 0 gH808 3000 = true := by decide +kernel
noncomputable def gH809 : sHt := ([], [], [(0, [[350, 353, 354, 355, 356, 357, 358, 359, 371, 372, 373, 374, 375, 498]]), (17, [[363]]), (21, [[351, 352]])], [], [], [])
theorem gK809 : cChk 809 gCT gRU gC809 0 gH809 3000 = true := by decide +kernel
noncomputable def gH810 : sHt := ([], [], [], [], [(4, [801]), (18, [802]), (32, [803]), (46, [804]), (60, [805]), (74, [806]), (88, [807]), (103, [808]), (118, [809])], [])
theorem gK810 : cChk 810 gCT gRU gC810 0 gH810 3000 = true := by decide +kernel
noncomputable def gH811 : sHt := ([], [], [(40, [[580, 581, 582]])], [], [], [])
theorem gK811 : cChk 811 gCT gRU gC811 0 gH811 3000 = true := by decide +kernel
noncomputable def gH812 : sHt := ([], [], [(40, [[580, 581, 582]])], [], [], [])
theorem gK812 : cChk 812 gCT gRU gC812 0 gH812 3000 = true := by decide +kernel
noncomputable def gH813 : sHt := ([(2, ((4, [(0, .ofNat 0, .ofNat 5), (1, .ofNat 0, .ofNat 940), (2, .ofNat 0, .ofNat 940), (3, .ofNat 0, .ofNat 5)], [], []), [(94, .ofNat 273, []), (1, .ofNat 0, []), (1, .ofNat 0, [(.ofNat 1, 0)]), (1, .ofNat 0, [(.ofNat 1, 3)])], ([((78, .ofNat 273, []), (.ofNat 11, []), 1, .ofNat 1, [])], [(131, [(.ofNat 0, [(.ofNat 1, 1)]), (.ofNat 0, [(.ofNat 1, 2)])])])), (.ofNat 5, [(.negSucc 0, 3)]))], [(2, false)], [(0, [[458, 459, 460]]), (23, [[466, 467, 468]]), (25, [[461, 462, 463, 464, 465, 469]]), (31, [[470, 471, 472]])], [], [], [])
theorem gK813 : cChk 813 gCT gRU gC813 1 gH813 3000 = true := by decide +kernel
noncomputable def gH814 : sHt := ([(2, ((4, [(0, .ofNat 0, .ofNat 5), (1, .ofNat 0, .ofNat 940), (2, .ofNat 0, .ofNat 940), (3, .ofNat 0, .ofNat 5)], [], []), [(94, .ofNat 273, []), (1, .ofNat 4, []), (1, .ofNat 0, [(.ofNat 1, 0)]), (1, .ofNat 0, [(.ofNat 1, 3)])], ([((78, .ofNat 273, []), (.ofNat 11, []), 1, .ofNat 1, [])], [(131, [(.ofNat 0, [(.ofNat 1, 1)]), (.ofNat 0, [(.ofNat 1, 2)])])])), (.ofNat 5, [(.negSucc 0, 3)]))], [(2, false)], [(0, [[458, 459, 460]]), (23, [[466, 467, 468]]), (25, [[461, 462, 463, 464, 465, 469]]), (31, [[470, 471, 472]])], [], [], [])
theorem gK814 : cChk 814 gCT gRU gC814 1 gH814 3000 = true := by decide +kernel
noncomputable def gH815 : sHt := ([], [], [(40, [[580, 581, 582, 583, 584]])], [], [], [])
theorem gK815 : cChk 815 gCT gRU gC815 0 gH815 3000 = true := by decide +kernel
end CkChk49
