section CkChk4
noncomputable def gH115 : sHt := ([], [], [], [], [(5, [114])], [])
theorem gK115 : cChk 115 gCT gRU gC115 0 gH115 3000 = true := by decide +kernel
noncomputable def gH116 : sHt := ([(5, ((1, [(0, .ofNat 0, .ofNat 100)], [], []), [(66, .ofNat 183, []), (1, .ofNat 0, []), (1, .ofNat 0, [(.ofNat 1, 0)]), (1, .ofNat 100, [])], ([], [])), (.ofNat 100, [(.negSucc 0, 0)]))], [(5, false)], [], [], [], [])
theorem gK116 : cChk 116 gCT gRU gC116 2 gH116 3000 = true := by decide +kernel
noncomputable def gH117 : sHt := ([(5, ((1, [(0, .ofNat 0, .ofNat 42)], [], []), [(67, .ofNat 184, []), (1, .negSucc 0, []), (1, .ofNat 0, [(.ofNat 1, 0)]), (1, .ofNat 42, [])], ([], [])), (.ofNat 42, [(.negSucc 0, 0)]))], [(5, false)], [], [], [], [])
theorem gK117 : cChk 117 gCT gRU gC117 2 gH117 3000 = true := by decide +kernel
noncomputable def gH118 : sHt := ([(5, ((1, [(0, .ofNat 0, .ofNat 12)], [], []), [(68, .ofNat 185, []), (1, .ofNat 0, []), (1, .ofNat 0, [(.ofNat 1, 0)]), (1, .ofNat 12, [])], ([], [])), (.ofNat 12, [(.negSucc 0, 0)]))], [(5, false)], [], [], [], [])
theorem gK118 : cChk 118 gCT gRU gC118 2 gH118 3000 = true := by decide +kernel
noncomputable def gH119 : sHt := ([(5, ((1, [(0, .ofNat 0, .ofNat 4)], [], []), [(69, .ofNat 186, []), (1, .ofNat 0, []), (1, .ofNat 0, [(.ofNat 1, 0)]), (1, .ofNat 4, [])], ([], [])), (.ofNat 4, [(.negSucc 0, 0)]))], [(5, false)], [], [], [], [])
theorem gK119 : cChk 119 gCT gRU gC119 2 gH119 3000 = true := by decide +kernel
noncomputable def gH120 : sHt := ([(32, ((10, [(0, .negSucc 2147483647, .ofNat 2147483647), (1, .ofNat 0, .ofNat 9), (2, .ofNat 0, .ofNat 9), (3, .ofNat 0, .ofNat 4), (4, .ofNat 0, .ofNat 9), (5, .ofNat 0, .ofNat 9), (6, .negSucc 2147483647, .ofNat 2147483647), (7, .negSucc 2147483647, .ofNat 2147483647), (8, .ofNat 0, .ofNat 1), (9, .ofNat 0, .ofNat 5)], [(.negSucc 0, [(.negSucc 0, 3)]), (.negSucc 0, [(.negSucc 0, 3), (.ofNat 1, 9)])], []), [(65, .ofNat 182, []), (1, .ofNat 0, [(.ofNat 1, 0)]), (1, .ofNat 0, [(.ofNat 1, 1)]), (1, .ofNat 0, [(.ofNat 1, 2)]), (1, .ofNat 0, [(.ofNat 1, 4)]), (1, .ofNat 0, [(.ofNat 1, 5)]), (1, .ofNat 0, [(.ofNat 1, 6)]), (1, .ofNat 0, [(.ofNat 1, 7)]), (1, .ofNat 0, [(.ofNat 1, 8)]), (1, .ofNat 0, [(.ofNat 1, 9)]), (0, .ofNat 0, []), (0, .ofNat 0, [])], ([((49, .ofNat 182, []), (.ofNat 8, []), 1, .ofNat 0, [(.ofNat 1, 3)]), ((49, .ofNat 182, []), (.ofNat 5, []), 18, .ofNat 2, [])], [(0, [(.ofNat 0, [(.ofNat 1, 9)])])])), (.ofNat 5, [(.negSucc 0, 9)]))], [(32, false)], [(0, [[276]]), (234, [[277], [278]])], [62, 75], [(125, [98]), (205, [97]), (230, [100])], [])
theorem gK120 : cChk 120 gCT gRU gC120 8 gH120 3000 = true := by decide +kernel
noncomputable def gH121 : sHt := ([(2, ((2, [(0, .ofNat 0, .ofNat 4), (1, .ofNat 0, .ofNat 5)], [], []), [(65, .ofNat 182, []), (1, .ofNat 0, [(.ofNat 1, 1)])], ([((49, .ofNat 182, []), (.ofNat 8, []), 1, .ofNat 0, [(.ofNat 1, 0)]), ((49, .ofNat 182, []), (.ofNat 5, []), 18, .ofNat 2, [])], [(0, [(.ofNat 1, [(.ofNat 1, 0)])])])), (.ofNat 5, [(.negSucc 0, 1)]))], [(2, false)], [], [], [], [])
theorem gK121 : cChk 121 gCT gRU gC121 1 gH121 3000 = true := by decide +kernel
noncomputable def gH122 : sHt := ([], [], [], [], [], [])
theorem gK122 : cChk 122 gCT gRU gC122 0 gH122 3000 = true := by decide +kernel
noncomputable def gH123 : sHt := ([(5, ((1, [(0, .ofNat 0, .ofNat 4)], [], []), [(73, .ofNat 190, []), (1, .ofNat 0, []), (1, .ofNat 0, [(.ofNat 1, 0)]), (1, .ofNat 4, [])], ([], [])), (.ofNat 4, [(.negSucc 0, 0)]))], [(5, false)], [], [], [], [])
theorem gK123 : cChk 123 gCT gRU gC123 2 gH123 3000 = true := by decide +kernel
noncomputable def gH124 : sHt := ([(7, ((4, [(0, .ofNat 0, .ofNat 0), (1, .negSucc 0, .ofNat 3), (2, .ofNat 0, .ofNat 2147483647), (3, .ofNat 0, .ofNat 4)], [], []), [(73, .ofNat 190, []), (1, .ofNat 0, []), (1, .ofNat 0, [(.ofNat 1, 1)]), (1, .ofNat 0, [(.ofNat 1, 2)]), (1, .ofNat 0, [(.ofNat 1, 3)])], ([((49, .ofNat 182, []), (.ofNat 5, []), 18, .ofNat 2, [])], [])), (.ofNat 4, [(.negSucc 0, 3)]))], [(7, false)], [], [], [], [])
theorem gK124 : cChk 124 gCT gRU gC124 3 gH124 3000 = true := by decide +kernel
noncomputable def gH125 : sHt := ([(10, ((3, [(0, .ofNat 0, .ofNat 2), (1, .ofNat 0, .ofNat 4), (2, .ofNat 0, .ofNat 5)], [], []), [(65, .ofNat 182, []), (1, .ofNat 0, [(.ofNat 1, 0)]), (1, .ofNat 0, [(.ofNat 1, 2)])], ([((49, .ofNat 182, []), (.ofNat 12, []), 73, .ofNat 190, []), ((49, .ofNat 182, []), (.ofNat 8, []), 1, .ofNat 0, [(.ofNat 1, 1)]), ((49, .ofNat 182, []), (.ofNat 5, []), 18, .ofNat 2, [])], [(0, [(.ofNat 1, [(.ofNat 1, 1)])])])), (.ofNat 5, [(.negSucc 0, 2)]))], [(10, false)], [(40, [[279]])], [], [(5, [123]), (77, [124])], [])
theorem gK125 : cChk 125 gCT gRU gC125 1 gH125 3000 = true := by decide +kernel
noncomputable def gH126 : sHt := ([(24, ((6, [(0, .ofNat 0, .ofNat 13), (1, .ofNat 0, .ofNat 4), (2, .ofNat 0, .ofNat 4), (3, .ofNat 0, .ofNat 3)], [], []), [(65, .ofNat 182, []), (1, .ofNat 0, [(.ofNat 1, 0)]), (1, .ofNat 0, [(.ofNat 1, 2)]), (1, .ofNat 0, [(.ofNat 1, 3)]), (0, .ofNat 0, [])], ([((49, .ofNat 182, []), (.ofNat 6, []), 31, .ofNat 0, [(.ofNat 1, 4)]), ((49, .ofNat 182, []), (.ofNat 8, []), 1, .ofNat 0, [(.ofNat 1, 1)]), ((49, .ofNat 182, []), (.ofNat 5, []), 18, .ofNat 2, []), ((15, .ofNat 0, [(.ofNat 1, 4)]), (.ofNat 5, []), 32, .ofNat 0, [(.ofNat 1, 5)]), ((16, .ofNat 0, [(.ofNat 1, 5)]), (.ofNat 0, [(.ofNat 1, 0)]), 1, .ofNat 0, [(.ofNat 1, 2)])], [(0, [(.ofNat 1, [(.ofNat 1, 1)])])])), (.ofNat 3, [(.negSucc 0, 3)]))], [(24, false)], [], [], [(15, [122]), (58, [91]), (66, [125])], [])
theorem gK126 : cChk 126 gCT gRU gC126 3 gH126 3000 = true := by decide +kernel
noncomputable def gH127 : sHt := ([(61, ((5, [(1, .ofNat 0, .ofNat 4), (2, .ofNat 0, .ofNat 4), (3, .ofNat 0, .ofNat 14), (4, .negSucc 2147483647, .ofNat 2147483647)], [], []), [(65, .ofNat 182, []), (18, .ofNat 2, []), (31, .ofNat 0, [(.ofNat 1, 0)]), (1, .ofNat 0, [(.ofNat 1, 1)]), (1, .ofNat 0, [(.ofNat 1, 2)]), (1, .ofNat 0, [(.ofNat 1, 3)])], ([((49, .ofNat 182, []), (.ofNat 3, []), 69, .ofNat 186, []), ((49, .ofNat 182, []), (.ofNat 2, []), 68, .ofNat 185, []), ((49, .ofNat 182, []), (.ofNat 1, []), 67, .ofNat 184, []), ((49, .ofNat 182, []), (.ofNat 0, []), 66, .ofNat 183, []), ((49, .ofNat 182, []), (.ofNat 4, []), 1, .ofNat 0, [(.ofNat 1, 4)]), ((49, .ofNat 182, []), (.ofNat 8, []), 1, .ofNat 0, [(.ofNat 1, 2)]), ((49, .ofNat 182, []), (.ofNat 7, []), 1, .ofNat 0, [(.ofNat 1, 1)]), ((49, .ofNat 182, []), (.ofNat 6, []), 31, .ofNat 0, [(.ofNat 1, 0)]), ((49, .ofNat 182, []), (.ofNat 5, []), 18, .ofNat 2, [])], [])), (.ofNat 14, [(.negSucc 0, 3)]))], [(61, false)], [], [], [(31, [116]), (39, [117]), (47, [118]), (55, [119]), (79, [90]), (96, [94]), (119, [120]), (123, [121]), (129, [126])], [])
theorem gK127 : cChk 127 gCT gRU gC127 1 gH127 3000 = true := by decide +kernel
noncomputable def gH128 : sHt := ([(2, ((2, [(1, .ofNat 0, .ofNat 14)], [], []), [(74, .ofNat 191, []), (18, .ofNat 2, []), (31, .ofNat 0, [(.ofNat 1, 0)]), (1, .ofNat 0, [(.ofNat 1, 1)]), (0, .ofNat 0, [])], ([((49, .ofNat 182, []), (.ofNat 5, []), 18, .ofNat 2, [])], [])), (.ofNat 70, [(.negSucc 4, 1)])), (25, ((7, [(1, .ofNat 0, .ofNat 13), (2, .negSucc 0, .ofNat 2), (3, .ofNat 0, .ofNat 3), (5, .ofNat 1, .ofNat 14), (6, .negSucc 2147483647, .ofNat 2147483647)], [], []), [(74, .ofNat 191, []), (18, .ofNat 2, []), (31, .ofNat 0, [(.ofNat 1, 0)]), (1, .ofNat 0, [(.ofNat 1, 1)]), (1, .ofNat 0, [(.ofNat 1, 2)])], ([((2, .ofNat 2, []), (.ofNat 3, []), 1, .ofNat 0, [(.ofNat 1, 3)]), ((15, .ofNat 0, [(.ofNat 1, 0)]), (.ofNat 9, []), 36, .ofNat 0, [(.ofNat 1, 4)]), ((15, .ofNat 0, [(.ofNat 1, 0)]), (.ofNat 1, []), 1, .ofNat 0, [(.ofNat 1, 5)]), ((49, .ofNat 182, []), (.ofNat 5, []), 18, .ofNat 2, []), ((20, .ofNat 0, [(.ofNat 1, 4)]), (.ofNat 0, []), 1, .ofNat 0, [(.ofNat 1, 6)])], [])), (.ofNat 67, [(.negSucc 4, 1), (.ofNat 1, 2)]))], [(2, false), (25, false)], [], [], [(35, [92])], [])
theorem gK128 : cChk 128 gCT gRU gC128 2 gH128 3000 = true := by decide +kernel
noncomputable def gH129 : sHt := ([(7, ((4, [(0, .ofNat 0, .ofNat 8), (1, .negSucc 0, .ofNat 3), (2, .ofNat 0, .ofNat 2147483647), (3, .ofNat 0, .ofNat 4)], [], []), [(68, .ofNat 185, []), (1, .ofNat 0, [(.ofNat 1, 0)]), (1, .ofNat 0, [(.ofNat 1, 1)]), (1, .ofNat 0, [(.ofNat 1, 2)]), (1, .ofNat 0, [(.ofNat 1, 3)])], ([((49, .ofNat 182, []), (.ofNat 5, []), 18, .ofNat 2, [])], [])), (.ofNat 4, [(.negSucc 0, 3)]))], [(7, false)], [], [], [], [])
theorem gK129 : cChk 129 gCT gRU gC129 3 gH129 3000 = true := by decide +kernel
noncomputable def gH130 : sHt := ([], [], [], [], [(7, [129])], [])
theorem gK130 : cChk 130 gCT gRU gC130 1 gH130 3000 = true := by decide +kernel
noncomputable def gH131 : sHt := ([(5, ((2, [(1, .ofNat 0, .ofNat 10)], [], []), [(38, .ofNat 0, [(.ofNat 1, 0)]), (1, .ofNat 0, []), (1, .ofNat 0, [(.ofNat 1, 1)]), (1, .ofNat 10, [])], ([], [])), (.ofNat 10, [(.negSucc 0, 1)]))], [(5, false)], [], [], [], [])
theorem gK131 : cChk 131 gCT gRU gC131 2 gH131 3000 = true := by decide +kernel
noncomputable def gH132 : sHt := ([(33, ((5, [(1, .ofNat 0, .ofNat 4), (2, .ofNat 0, .ofNat 4), (3, .ofNat 0, .ofNat 3), (4, .negSucc 2147483647, .ofNat 198)], [], []), [(74, .ofNat 191, []), (18, .ofNat 2, []), (31, .ofNat 0, [(.ofNat 1, 0)]), (1, .ofNat 0, [(.ofNat 1, 1)]), (1, .ofNat 0, [(.ofNat 1, 2)]), (1, .ofNat 0, [(.ofNat 1, 3)]), (0, .ofNat 0, [])], ([((49, .ofNat 182, []), (.ofNat 5, []), 18, .ofNat 2, []), ((58, .ofNat 191, []), (.ofNat 0, []), 65, .ofNat 182, []), ((15, .ofNat 0, [(.ofNat 1, 0)]), (.ofNat 0, []), 1, .ofNat 0, [(.ofNat 1, 4)])], [])), (.ofNat 8, [(.negSucc 0, 3)])), (94, ((6, [(1, .ofNat 0, .ofNat 4), (2, .ofNat 0, .ofNat 4), (3, .ofNat 0, .ofNat 4), (4, .ofNat 0, .ofNat 3), (5, .negSucc 2147483647, .ofNat 198)], [], []), [(74, .ofNat 191, []), (18, .ofNat 2, []), (31, .ofNat 0, [(.ofNat 1, 0)]), (1, .ofNat 0, [(.ofNat 1, 1)]), (1, .ofNat 0, [(.ofNat 1, 2)]), (1, .ofNat 0, [(.ofNat 1, 3)]), (0, .ofNat 0, [])], ([((2, .ofNat 2, []), (.ofNat 3, []), 1, .ofNat 0, [(.ofNat 1, 4)]), ((15, .ofNat 0, [(.ofNat 1, 0)]), (.ofNat 0, []), 1, .ofNat 0, [(.ofNat 1, 5)]), ((58, .ofNat 191, []), (.ofNat 0, []), 65, .ofNat 182, []), ((49, .ofNat 182, []), (.ofNat 5, []), 18, .ofNat 2, [])], [])), (.ofNat 4, [(.negSucc 0, 3)]))], [(33, false), (94, false)], [], [], [(21, [127]), (27, [128]), (48, [130]), (172, [131])], [])
theorem gK132 : cChk 132 gCT gRU gC132 2 gH132 3000 = true := by decide +kernel
noncomputable def gH133 : sHt := ([], [], [], [], [], [])
theorem gK133 : cChk 133 gCT gRU gC133 2 gH133 3000 = true := by decide +kernel
noncomputable def gH134 : sHt := ([], [], [], [], [(8, [133])], [])
theorem gK134 : cChk 134 gCT gRU gC134 0 gH134 3000 = true := by decide +kernel
noncomputable def gH135 : sHt := ([], [], [], [], [(3, [113]), (19, [115]), (37, [132]), (40, [134])], [])
theorem gK135 : cChk 135 gCT gRU gC135 0 gH135 3000 = true := by decide +kernel
noncomputable def gH136 : sHt := ([], [], [], [], [], [])
theorem gK136 : cChk 136 gCT gRU gC136 0 gH136 3000 = true := by decide +kernel
noncomputable def gH137 : sHt := ([], [], [(19, [[161]]), (23, [[162, 163]])], [], [(3, [98]), (12, [99])], [])
theorem gK137 : cChk 137 gCT gRU gC137 0 gH137 3000 = true := by decide +kernel
noncomputable def gH138 : sHt := ([], [], [(0, [[207]]), (75, [[208], [209]])], [], [(70, [0]), (71, [0])], [])
theorem gK138 : cChk 138 gCT gRU gC138 0 gH138 3000 = true := by decide +kernel
noncomputable def gH139 : sHt := ([], [], [], [], [(4, [137]), (32, [138])], [])
theorem gK139 : cChk 139 gCT gRU gC139 0 gH139 3000 = true := by decide +kernel
noncomputable def gH140 : sHt := ([], [], [], [], [(2, [136]), (11, [96]), (27, [115]), (42, [139]), (45, [134])], [])
theorem gK140 : cChk 140 gCT gRU gC140 0 gH140 3000 = true := by decide +kernel
noncomputable def gH141 : sHt := ([], [], [], [], [(2, [90])], [])
theorem gK141 : cChk 141 gCT gRU gC141 0 gH141 3000 = true := by decide +kernel
noncomputable def gH142 : sHt := ([], [], [], [], [(2, [89]), (18, [115]), (31, [141]), (34, [134])], [])
theorem gK142 : cChk 142 gCT gRU gC142 0 gH142 3000 = true := by decide +kernel
noncomputable def gH143 : sHt := ([], [], [(0, [[165]]), (12, [[166]])], [], [(9, [0]), (10, [0])], [])
theorem gK143 : cChk 143 gCT gRU gC143 0 gH143 3000 = true := by decide +kernel
noncomputable def gH144 : sHt := ([], [], [], [], [(3, [137]), (25, [143])], [])
theorem gK144 : cChk 144 gCT gRU gC144 0 gH144 3000 = true := by decide +kernel
noncomputable def gH145 : sHt := ([], [], [], [], [(3, [96]), (19, [115]), (33, [144]), (36, [134])], [])
theorem gK145 : cChk 145 gCT gRU gC145 0 gH145 3000 = true := by decide +kernel
noncomputable def gH146 : sHt := ([], [], [], [], [(3, [97])], [])
theorem gK146 : cChk 146 gCT gRU gC146 0 gH146 3000 = true := by decide +kernel
noncomputable def gH147 : sHt := ([], [], [], [], [(3, [96]), (19, [115]), (33, [146]), (36, [134])], [])
theorem gK147 : cChk 147 gCT gRU gC147 0 gH147 3000 = true := by decide +kernel
noncomputable def gH148 : sHt := ([], [], [], [], [(37, [114])], [])
theorem gK148 : cChk 148 gCT gRU gC148 0 gH148 3000 = true := by decide +kernel
noncomputable def gH149 : sHt := ([], [], [], [], [(8, [148])], [])
theorem gK149 : cChk 149 gCT gRU gC149 0 gH149 3000 = true := by decide +kernel
noncomputable def gH150 : sHt := ([], [], [], [], [(3, [96]), (13, [113]), (36, [127])], [])
theorem gK150 : cChk 150 gCT gRU gC150 0 gH150 3000 = true := by decide +kernel
noncomputable def gH151 : sHt := ([], [], [], [], [(2, [89]), (10, [106]), (20, [113]), (44, [127])], [])
theorem gK151 : cChk 151 gCT gRU gC151 0 gH151 3000 = true := by decide +kernel
noncomputable def gH152 : sHt := ([], [], [], [], [(2, [102]), (10, [106]), (20, [113]), (43, [127])], [])
theorem gK152 : cChk 152 gCT gRU gC152 0 gH152 3000 = true := by decide +kernel
end CkChk4
