section CkChk47
noncomputable def gH763 : sHt := ([], [], [(0, [[350, 353, 354, 355, 356, 357, 358, 359, 371, 372, 373, 374, 375, 498]]), (17, [[363]]), (21, [[351, 352]])], [], [], [])
theorem gK763 : cChk 763 gCT gRU gC763 0 gH763 3000 = true := by decide +kernel
noncomputable def gH764 : sHt := ([(16, ((1, [(0, .ofNat 0, .ofNat 30)], [], []), [(94, .ofNat 273, []), (1, .ofNat 0, []), (1, .ofNat 0, [(.ofNat 1, 0)])], ([((78, .ofNat 273, []), (.ofNat 11, []), 1, .ofNat 2, [])], [])), (.ofNat 30, [(.negSucc 0, 0)]))], [(16, false)], [(14, [[446]]), (22, [[447]]), (46, [[448, 449, 450, 451]]), (52, [[452], [453, 454]])], [], [], [])
theorem gK764 : cChk 764 gCT gRU gC764 2 gH764 3000 = true := by decide +kernel
noncomputable def gH765 : sHt := ([], [], [(7, [[455, 456, 457]])], [], [(1, [764]), (9, [386])], [])
theorem gK765 : cChk 765 gCT gRU gC765 0 gH765 3000 = true := by decide +kernel
noncomputable def gH766 : sHt := ([(16, ((5, [(0, .ofNat 0, .ofNat 940), (1, .ofNat 0, .ofNat 940), (2, .ofNat 0, .ofNat 1), (3, .ofNat 0, .ofNat 30)], [], []), [(94, .ofNat 273, []), (1, .ofNat 0, [(.ofNat 1, 2)]), (1, .ofNat 0, [(.ofNat 1, 3)])], ([((78, .ofNat 273, []), (.ofNat 17, []), 5, .ofNat 0, [(.ofNat 1, 4)]), ((78, .ofNat 273, []), (.ofNat 11, []), 1, .ofNat 1, [])], [(131, [(.ofNat 0, [(.ofNat 1, 0)]), (.ofNat 0, [(.ofNat 1, 1)])]), (133, [(.ofNat 0, [(.ofNat 1, 3)]), (.ofNat 0, [(.ofNat 1, 2)]), (.ofNat 0, [(.ofNat 1, 4)])])])), (.ofNat 30, [(.negSucc 0, 3)]))], [(16, false)], [(14, [[446]]), (22, [[447]]), (46, [[448, 449, 450, 451]]), (52, [[452], [453, 454]])], [], [], [])
theorem gK766 : cChk 766 gCT gRU gC766 2 gH766 3000 = true := by decide +kernel
noncomputable def gH767 : sHt := ([(2, ((4, [(0, .ofNat 0, .ofNat 5), (1, .ofNat 0, .ofNat 940), (2, .ofNat 0, .ofNat 940), (3, .ofNat 0, .ofNat 5)], [], []), [(94, .ofNat 273, []), (1, .ofNat 7, []), (1, .ofNat 0, [(.ofNat 1, 0)]), (1, .ofNat 0, [(.ofNat 1, 3)])], ([((78, .ofNat 273, []), (.ofNat 11, []), 1, .ofNat 1, [])], [(131, [(.ofNat 0, [(.ofNat 1, 1)]), (.ofNat 0, [(.ofNat 1, 2)])])])), (.ofNat 5, [(.negSucc 0, 3)]))], [(2, false)], [(0, [[458, 459, 460]]), (23, [[466, 467, 468]]), (25, [[461, 462, 463, 464, 465, 469]]), (31, [[470, 471, 472]])], [], [], [])
theorem gK767 : cChk 767 gCT gRU gC767 1 gH767 3000 = true := by decide +kernel
noncomputable def gH768 : sHt := ([], [], [(7, [[455, 456, 457]]), (30, [[473, 474]]), (36, [[475, 476]])], [], [(1, [766]), (9, [386]), (17, [767]), (32, [386]), (37, [716])], [])
theorem gK768 : cChk 768 gCT gRU gC768 0 gH768 3000 = true := by decide +kernel
noncomputable def gH769 : sHt := ([(16, ((1, [(0, .ofNat 0, .ofNat 30)], [], []), [(94, .ofNat 273, []), (1, .ofNat 0, []), (1, .ofNat 0, [(.ofNat 1, 0)])], ([((78, .ofNat 273, []), (.ofNat 11, []), 1, .ofNat 3, [])], [])), (.ofNat 30, [(.negSucc 0, 0)]))], [(16, false)], [(14, [[446]]), (22, [[447]]), (46, [[448, 449, 450, 451]]), (52, [[452], [453, 454]])], [], [], [])
theorem gK769 : cChk 769 gCT gRU gC769 2 gH769 3000 = true := by decide +kernel
noncomputable def gH770 : sHt := ([], [], [(7, [[455, 456, 457]])], [], [(1, [769]), (9, [386])], [])
theorem gK770 : cChk 770 gCT gRU gC770 0 gH770 3000 = true := by decide +kernel
noncomputable def gH771 : sHt := ([(16, ((1, [(0, .ofNat 0, .ofNat 30)], [], []), [(94, .ofNat 273, []), (1, .ofNat 0, []), (1, .ofNat 0, [(.ofNat 1, 0)])], ([((78, .ofNat 273, []), (.ofNat 11, []), 1, .ofNat 0, [])], [])), (.ofNat 30, [(.negSucc 0, 0)]))], [(16, false)], [(14, [[446]]), (22, [[447]]), (46, [[448, 449, 450, 451]]), (52, [[452], [453, 454]])], [], [], [])
theorem gK771 : cChk 771 gCT gRU gC771 2 gH771 3000 = true := by decide +kernel
noncomputable def gH772 : sHt := ([], [], [(7, [[455, 456, 457]])], [], [(1, [771]), (9, [386])], [])
theorem gK772 : cChk 772 gCT gRU gC772 0 gH772 3000 = true := by decide +kernel
noncomputable def gH773 : sHt := ([(16, ((1, [(0, .ofNat 0, .ofNat 30)], [], []), [(94, .ofNat 273, []), (1, .ofNat 0, []), (1, .ofNat 0, [(.ofNat 1, 0)])], ([((78, .ofNat 273, []), (.ofNat 11, []), 1, .ofNat 4, [])], [])), (.ofNat 30, [(.negSucc 0, 0)]))], [(16, false)], [(14, [[446]]), (22, [[447]]), (46, [[448, 449, 450, 451]]), (52, [[452], [453, 454]])], [], [], [])
theorem gK773 : cChk 773 gCT gRU gC773 2 gH773 3000 = true := by decide +kernel
noncomputable def gH774 : sHt := ([], [], [(7, [[455, 456, 457]])], [], [(1, [773]), (9, [386])], [])
theorem gK774 : cChk 774 gCT gRU gC774 0 gH774 3000 = true := by decide +kernel
noncomputable def gH775 : sHt := ([], [], [(0, [[350, 353, 354, 355, 356, 357, 358, 359, 371, 372, 373, 374, 375, 498]]), (17, [[363]]), (21, [[351, 352]])], [], [], [])
theorem gK775 : cChk 775 gCT gRU gC775 0 gH775 3000 = true := by decide +kernel
noncomputable def gH776 : sHt := ([], [], [(0, [[350, 353, 354, 355, 356, 357, 358, 359, 371, 372, 373, 374, 375, 498]]), (17, [[363]]), (21, [[351, 352]])], [], [], [])
theorem gK776 : cChk 776 gCT gRU gC776 0 gH776 3000 = true := by decide +kernel
noncomputable def gH777 : sHt := ([], [], [(0, [[350, 353, 354, 355, 356, 357, 358, 359, 371, 372, 373, 374, 375, 498]]), (17, [[363]]), (21, [[351, 352]])], [], [], [])
theorem gK777 : cChk 777 gCT gRU gC777 0 gH777 3000 = true := by decide +kernel
noncomputable def gH778 : sHt := ([], [], [(161, [[568]]), (192, [[571]]), (288, [[569], [570]])], [], [(11, [717]), (25, [763]), (39, [775]), (53, [776]), (67, [777]), (85, [386]), (100, [386]), (112, [716]), (120, [724, 731, 748, 755, 762]), (129, [733, 735, 737, 739, 741]), (172, [741, 739, 737, 735, 733]), (208, [765, 768, 770, 772, 774]), (238, [733, 735, 737, 739, 741]), (268, [733, 735, 737, 739, 741])], [])
theorem gK778 : cChk 778 gCT gRU gC778 2 gH778 3000 = true := by decide +kernel
end CkChk47
