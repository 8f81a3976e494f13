section CkChk5
noncomputable def gH101 : sHt := ([], [], [], [], [], [])
theorem gK101 : cChk 101 gCT gRU gC101 0 gH101 3000 = true := by decide +kernel
noncomputable def gH102 : sHt := ([(5, ((1, [(0, .ofNat 0, .ofNat 4)], [], []), [(73, .ofNat 190, []), (1, .ofNat 0, []), (1, .ofNat 0, [(.ofNat 1, 0)]), (1, .ofNat 4, [])], ([], [])), (.ofNat 4, [(.negSucc 0, 0)]))], [(5, false)], [], [], [], [])
theorem gK102 : cChk 102 gCT gRU gC102 2 gH102 3000 = true := by decide +kernel
noncomputable def gH103 : sHt := ([(7, ((4, [(0, .ofNat 0, .ofNat 0), (1, .negSucc 0, .ofNat 3), (2, .ofNat 0, .ofNat 2147483647), (3, .ofNat 0, .ofNat 4)], [], []), [(73, .ofNat 190, []), (1, .ofNat 0, []), (1, .ofNat 0, [(.ofNat 1, 1)]), (1, .ofNat 0, [(.ofNat 1, 2)]), (1, .ofNat 0, [(.ofNat 1, 3)])], ([], [])), (.ofNat 4, [(.negSucc 0, 3)]))], [(7, false)], [], [], [], [])
theorem gK103 : cChk 103 gCT gRU gC103 3 gH103 3000 = true := by decide +kernel
noncomputable def gH104 : sHt := ([(10, ((3, [(0, .ofNat 0, .ofNat 2), (1, .ofNat 0, .ofNat 4), (2, .ofNat 0, .ofNat 5)], [], []), [(65, .ofNat 182, []), (1, .ofNat 0, [(.ofNat 1, 0)]), (1, .ofNat 0, [(.ofNat 1, 2)])], ([((49, .ofNat 182, []), (.ofNat 12, []), 73, .ofNat 190, []), ((49, .ofNat 182, []), (.ofNat 8, []), 1, .ofNat 0, [(.ofNat 1, 1)])], [(0, [(.ofNat 1, [(.ofNat 1, 1)])])])), (.ofNat 5, [(.negSucc 0, 2)]))], [(10, false)], [(40, [[5]])], [], [(5, [102]), (77, [103])], [])
theorem gK104 : cChk 104 gCT gRU gC104 1 gH104 3000 = true := by decide +kernel
noncomputable def gH105 : sHt := ([(24, ((7, [(0, .ofNat 0, .ofNat 13), (1, .ofNat 0, .ofNat 4), (2, .ofNat 0, .ofNat 4), (3, .ofNat 0, .ofNat 3)], [], []), [(65, .ofNat 182, []), (1, .ofNat 0, [(.ofNat 1, 0)]), (1, .ofNat 0, [(.ofNat 1, 2)]), (1, .ofNat 0, [(.ofNat 1, 3)]), (0, .ofNat 0, [])], ([((49, .ofNat 182, []), (.ofNat 5, []), 18, .ofNat 0, [(.ofNat 1, 4)]), ((49, .ofNat 182, []), (.ofNat 6, []), 31, .ofNat 0, [(.ofNat 1, 5)]), ((49, .ofNat 182, []), (.ofNat 8, []), 1, .ofNat 0, [(.ofNat 1, 1)]), ((15, .ofNat 0, [(.ofNat 1, 5)]), (.ofNat 5, []), 32, .ofNat 0, [(.ofNat 1, 6)]), ((16, .ofNat 0, [(.ofNat 1, 6)]), (.ofNat 0, [(.ofNat 1, 0)]), 1, .ofNat 0, [(.ofNat 1, 2)])], [(0, [(.ofNat 1, [(.ofNat 1, 1)])])])), (.ofNat 3, [(.negSucc 0, 3)]))], [(24, false)], [], [], [(15, [101]), (58, [72]), (66, [104])], [])
theorem gK105 : cChk 105 gCT gRU gC105 3 gH105 3000 = true := by decide +kernel
noncomputable def gH106 : sHt := ([(61, ((6, [(2, .ofNat 0, .ofNat 4), (3, .ofNat 0, .ofNat 4), (4, .ofNat 0, .ofNat 14)], [], []), [(65, .ofNat 182, []), (18, .ofNat 0, [(.ofNat 1, 0)]), (31, .ofNat 0, [(.ofNat 1, 1)]), (1, .ofNat 0, [(.ofNat 1, 2)]), (1, .ofNat 0, [(.ofNat 1, 3)]), (1, .ofNat 0, [(.ofNat 1, 4)])], ([((49, .ofNat 182, []), (.ofNat 3, []), 69, .ofNat 186, []), ((49, .ofNat 182, []), (.ofNat 2, []), 68, .ofNat 185, []), ((49, .ofNat 182, []), (.ofNat 1, []), 67, .ofNat 184, []), ((49, .ofNat 182, []), (.ofNat 0, []), 66, .ofNat 183, []), ((49, .ofNat 182, []), (.ofNat 4, []), 1, .ofNat 0, [(.ofNat 1, 5)]), ((49, .ofNat 182, []), (.ofNat 8, []), 1, .ofNat 0, [(.ofNat 1, 3)]), ((49, .ofNat 182, []), (.ofNat 7, []), 1, .ofNat 0, [(.ofNat 1, 2)]), ((49, .ofNat 182, []), (.ofNat 6, []), 31, .ofNat 0, [(.ofNat 1, 1)]), ((49, .ofNat 182, []), (.ofNat 5, []), 18, .ofNat 0, [(.ofNat 1, 0)])], [])), (.ofNat 14, [(.negSucc 0, 4)]))], [(61, false)], [], [], [(31, [95]), (39, [96]), (47, [97]), (55, [98]), (79, [35]), (96, [75]), (119, [99]), (123, [100]), (129, [105])], [])
theorem gK106 : cChk 106 gCT gRU gC106 1 gH106 3000 = true := by decide +kernel
noncomputable def gH107 : sHt := ([(2, ((3, [(2, .ofNat 0, .ofNat 14)], [], []), [(74, .ofNat 191, []), (18, .ofNat 0, [(.ofNat 1, 0)]), (31, .ofNat 0, [(.ofNat 1, 1)]), (1, .ofNat 0, [(.ofNat 1, 2)]), (0, .ofNat 0, [])], ([], [])), (.ofNat 70, [(.negSucc 4, 2)])), (25, ((8, [(2, .ofNat 0, .ofNat 13), (3, .negSucc 0, .ofNat 2), (4, .ofNat 0, .ofNat 3), (6, .ofNat 1, .ofNat 14)], [], []), [(74, .ofNat 191, []), (18, .ofNat 0, [(.ofNat 1, 0)]), (31, .ofNat 0, [(.ofNat 1, 1)]), (1, .ofNat 0, [(.ofNat 1, 2)]), (1, .ofNat 0, [(.ofNat 1, 3)])], ([((2, .ofNat 0, [(.ofNat 1, 0)]), (.ofNat 3, []), 1, .ofNat 0, [(.ofNat 1, 4)]), ((15, .ofNat 0, [(.ofNat 1, 1)]), (.ofNat 9, []), 36, .ofNat 0, [(.ofNat 1, 5)]), ((15, .ofNat 0, [(.ofNat 1, 1)]), (.ofNat 1, []), 1, .ofNat 0, [(.ofNat 1, 6)]), ((20, .ofNat 0, [(.ofNat 1, 5)]), (.ofNat 0, []), 1, .ofNat 0, [(.ofNat 1, 7)])], [])), (.ofNat 67, [(.negSucc 4, 2), (.ofNat 1, 3)]))], [(2, false), (25, false)], [], [], [(35, [73])], [])
theorem gK107 : cChk 107 gCT gRU gC107 2 gH107 3000 = true := by decide +kernel
noncomputable def gH108 : sHt := ([(7, ((4, [(0, .ofNat 0, .ofNat 8), (1, .negSucc 0, .ofNat 3), (2, .ofNat 0, .ofNat 2147483647), (3, .ofNat 0, .ofNat 4)], [], []), [(68, .ofNat 185, []), (1, .ofNat 0, [(.ofNat 1, 0)]), (1, .ofNat 0, [(.ofNat 1, 1)]), (1, .ofNat 0, [(.ofNat 1, 2)]), (1, .ofNat 0, [(.ofNat 1, 3)])], ([], [])), (.ofNat 4, [(.negSucc 0, 3)]))], [(7, false)], [], [], [], [])
theorem gK108 : cChk 108 gCT gRU gC108 3 gH108 3000 = true := by decide +kernel
noncomputable def gH109 : sHt := ([], [], [], [], [(7, [108])], [])
theorem gK109 : cChk 109 gCT gRU gC109 1 gH109 3000 = true := by decide +kernel
noncomputable def gH110 : sHt := ([(33, ((6, [(2, .ofNat 0, .ofNat 4), (3, .ofNat 0, .ofNat 4), (4, .ofNat 0, .ofNat 3), (5, .negSucc 2147483647, .ofNat 198)], [], []), [(74, .ofNat 191, []), (18, .ofNat 0, [(.ofNat 1, 0)]), (31, .ofNat 0, [(.ofNat 1, 1)]), (1, .ofNat 0, [(.ofNat 1, 2)]), (1, .ofNat 0, [(.ofNat 1, 3)]), (1, .ofNat 0, [(.ofNat 1, 4)]), (0, .ofNat 0, [])], ([((58, .ofNat 191, []), (.ofNat 0, []), 65, .ofNat 182, []), ((15, .ofNat 0, [(.ofNat 1, 1)]), (.ofNat 0, []), 1, .ofNat 0, [(.ofNat 1, 5)])], [])), (.ofNat 8, [(.negSucc 0, 4)])), (94, ((7, [(2, .ofNat 0, .ofNat 4), (3, .ofNat 0, .ofNat 4), (4, .ofNat 0, .ofNat 4), (5, .ofNat 0, .ofNat 3), (6, .negSucc 2147483647, .ofNat 198)], [], []), [(74, .ofNat 191, []), (18, .ofNat 0, [(.ofNat 1, 0)]), (31, .ofNat 0, [(.ofNat 1, 1)]), (1, .ofNat 0, [(.ofNat 1, 2)]), (1, .ofNat 0, [(.ofNat 1, 3)]), (1, .ofNat 0, [(.ofNat 1, 4)]), (0, .ofNat 0, [])], ([((2, .ofNat 0, [(.ofNat 1, 0)]), (.ofNat 3, []), 1, .ofNat 0, [(.ofNat 1, 5)]), ((15, .ofNat 0, [(.ofNat 1, 1)]), (.ofNat 0, []), 1, .ofNat 0, [(.ofNat 1, 6)]), ((58, .ofNat 191, []), (.ofNat 0, []), 65, .ofNat 182, [])], [])), (.ofNat 4, [(.negSucc 0, 4)]))], [(33, false), (94, false)], [], [], [(21, [106]), (27, [107]), (48, [109]), (172, [10])], [])
theorem gK110 : cChk 110 gCT gRU gC110 2 gH110 3000 = true := by decide +kernel
noncomputable def gH111 : sHt := ([], [], [], [], [], [])
theorem gK111 : cChk 111 gCT gRU gC111 2 gH111 3000 = true := by decide +kernel
noncomputable def gH112 : sHt := ([], [], [], [], [(8, [111])], [])
theorem gK112 : cChk 112 gCT gRU gC112 0 gH112 3000 = true := by decide +kernel
noncomputable def gH113 : sHt := ([], [], [], [], [(3, [92]), (19, [94]), (37, [110]), (40, [112])], [])
theorem gK113 : cChk 113 gCT gRU gC113 0 gH113 3000 = true := by decide +kernel
noncomputable def gH114 : sHt := ([], [], [], [], [], [])
theorem gK114 : cChk 114 gCT gRU gC114 0 gH114 3000 = true := by decide +kernel
noncomputable def gH115 : sHt := ([], [], [], [], [(4, [37]), (32, [45])], [])
theorem gK115 : cChk 115 gCT gRU gC115 0 gH115 3000 = true := by decide +kernel
noncomputable def gH116 : sHt := ([], [], [], [], [(2, [114]), (11, [77]), (27, [94]), (42, [115]), (45, [112])], [])
theorem gK116 : cChk 116 gCT gRU gC116 0 gH116 3000 = true := by decide +kernel
noncomputable def gH117 : sHt := ([], [], [], [], [(2, [35])], [])
theorem gK117 : cChk 117 gCT gRU gC117 0 gH117 3000 = true := by decide +kernel
noncomputable def gH118 : sHt := ([], [], [], [], [(2, [71]), (18, [94]), (31, [117]), (34, [112])], [])
theorem gK118 : cChk 118 gCT gRU gC118 0 gH118 3000 = true := by decide +kernel
noncomputable def gH119 : sHt := ([], [], [], [], [(3, [37]), (25, [38])], [])
theorem gK119 : cChk 119 gCT gRU gC119 0 gH119 3000 = true := by decide +kernel
noncomputable def gH120 : sHt := ([], [], [], [], [(3, [77]), (19, [94]), (33, [119]), (36, [112])], [])
theorem gK120 : cChk 120 gCT gRU gC120 0 gH120 3000 = true := by decide +kernel
noncomputable def gH121 : sHt := ([], [], [], [], [(3, [78])], [])
theorem gK121 : cChk 121 gCT gRU gC121 0 gH121 3000 = true := by decide +kernel
noncomputable def gH122 : sHt := ([], [], [], [], [(3, [77]), (19, [94]), (33, [121]), (36, [112])], [])
theorem gK122 : cChk 122 gCT gRU gC122 0 gH122 3000 = true := by decide +kernel
noncomputable def gH123 : sHt := ([], [], [], [], [(37, [93])], [])
theorem gK123 : cChk 123 gCT gRU gC123 0 gH123 3000 = true := by decide +kernel
noncomputable def gH124 : sHt := ([], [], [], [], [(8, [123])], [])
theorem gK124 : cChk 124 gCT gRU gC124 0 gH124 3000 = true := by decide +kernel
noncomputable def gH125 : sHt := ([], [], [], [], [(3, [77]), (13, [92]), (36, [106])], [])
theorem gK125 : cChk 125 gCT gRU gC125 0 gH125 3000 = true := by decide +kernel
noncomputable def gH126 : sHt := ([], [], [], [], [(2, [71]), (10, [85]), (20, [92]), (44, [106])], [])
theorem gK126 : cChk 126 gCT gRU gC126 0 gH126 3000 = true := by decide +kernel
noncomputable def gH127 : sHt := ([], [], [], [], [(2, [81]), (10, [85]), (20, [92]), (43, [106])], [])
theorem gK127 : cChk 127 gCT gRU gC127 0 gH127 3000 = true := by decide +kernel
noncomputable def gH128 : sHt := ([], [], [], [], [(2, [85]), (11, [92]), (34, [106]), (42, [109])], [])
theorem gK128 : cChk 128 gCT gRU gC128 0 gH128 3000 = true := by decide +kernel
end CkChk5
