section CkChk7
noncomputable def gH129 : sHt := ([(7, ((4, [(0, .ofNat 0, .ofNat 8), (1, .negSucc 0, .ofNat 3), (2, .ofNat 0, .ofNat 2147483647), (3, .ofNat 0, .ofNat 4)], [], []), [(68, .ofNat 185, []), (1, .ofNat 0, [(.ofNat 1, 0)]), (1, .ofNat 0, [(.ofNat 1, 1)]), (1, .ofNat 0, [(.ofNat 1, 2)]), (1, .ofNat 0, [(.ofNat 1, 3)])], ([], [])), (.ofNat 4, [(.negSucc 0, 3)]))], [(7, false)], [], [], [], [])
theorem gK129 : cChk 129 gCT gRU gC129 3 gH129 3000 = true := by decide +kernel
noncomputable def gH130 : sHt := ([], [], [], [], [(7, [129])], [])
theorem gK130 : cChk 130 gCT gRU gC130 1 gH130 3000 = true := by decide +kernel
noncomputable def gH131 : sHt := ([(5, ((2, [(1, .ofNat 0, .ofNat 10)], [], []), [(38, .ofNat 0, [(.ofNat 1, 0)]), (1, .ofNat 0, []), (1, .ofNat 0, [(.ofNat 1, 1)]), (1, .ofNat 10, [])], ([], [])), (.ofNat 10, [(.negSucc 0, 1)]))], [(5, false)], [], [], [], [])
theorem gK131 : cChk 131 gCT gRU gC131 2 gH131 3000 = true := by decide +kernel
noncomputable def gH132 : sHt := ([(33, ((6, [(2, .ofNat 0, .ofNat 4), (3, .ofNat 0, .ofNat 4), (4, .ofNat 0, .ofNat 3), (5, .negSucc 2147483647, .ofNat 198)], [], []), [(74, .ofNat 191, []), (18, .ofNat 0, [(.ofNat 1, 0)]), (31, .ofNat 0, [(.ofNat 1, 1)]), (1, .ofNat 0, [(.ofNat 1, 2)]), (1, .ofNat 0, [(.ofNat 1, 3)]), (1, .ofNat 0, [(.ofNat 1, 4)]), (0, .ofNat 0, [])], ([((58, .ofNat 191, []), (.ofNat 0, []), 65, .ofNat 182, []), ((15, .ofNat 0, [(.ofNat 1, 1)]), (.ofNat 0, []), 1, .ofNat 0, [(.ofNat 1, 5)])], [])), (.ofNat 8, [(.negSucc 0, 4)])), (94, ((7, [(2, .ofNat 0, .ofNat 4), (3, .ofNat 0, .ofNat 4), (4, .ofNat 0, .ofNat 4), (5, .ofNat 0, .ofNat 3), (6, .negSucc 2147483647, .ofNat 198)], [], []), [(74, .ofNat 191, []), (18, .ofNat 0, [(.ofNat 1, 0)]), (31, .ofNat 0, [(.ofNat 1, 1)]), (1, .ofNat 0, [(.ofNat 1, 2)]), (1, .ofNat 0, [(.ofNat 1, 3)]), (1, .ofNat 0, [(.ofNat 1, 4)]), (0, .ofNat 0, [])], ([((2, .ofNat 0, [(.ofNat 1, 0)]), (.ofNat 3, []), 1, .ofNat 0, [(.ofNat 1, 5)]), ((15, .ofNat 0, [(.ofNat 1, 1)]), (.ofNat 0, []), 1, .ofNat 0, [(.ofNat 1, 6)]), ((58, .ofNat 191, []), (.ofNat 0, []), 65, .ofNat 182, [])], [])), (.ofNat 4, [(.negSucc 0, 4)]))], [(33, false), (94, false)], [], [], [(21, [127]), (27, [128]), (48, [130]), (172, [131])], [])
theorem gK132 : cChk 132 gCT gRU gC132 2 gH132 3000 = true := by decide +kernel
noncomputable def gH133 : sHt := ([], [], [], [], [], [])
theorem gK133 : cChk 133 gCT gRU gC133 2 gH133 3000 = true := by decide +kernel
noncomputable def gH134 : sHt := ([], [], [], [], [(8, [133])], [])
theorem gK134 : cChk 134 gCT gRU gC134 0 gH134 3000 = true := by decide +kernel
noncomputable def gH135 : sHt := ([], [], [], [], [(3, [113]), (19, [115]), (37, [132]), (40, [134])], [])
theorem gK135 : cChk 135 gCT gRU gC135 0 gH135 3000 = true := by decide +kernel
noncomputable def gH136 : sHt := ([], [], [], [], [], [])
theorem gK136 : cChk 136 gCT gRU gC136 0 gH136 3000 = true := by decide +kernel
noncomputable def gH137 : sHt := ([], [], [(19, [[138]]), (23, [[139, 140]])], [], [(3, [98]), (12, [99])], [])
theorem gK137 : cChk 137 gCT gRU gC137 0 gH137 3000 = true := by decide +kernel
noncomputable def gH138 : sHt := ([], [], [(0, [[161]]), (75, [[162], [163]])], [], [(70, [0]), (71, [0])], [])
theorem gK138 : cChk 138 gCT gRU gC138 0 gH138 3000 = true := by decide +kernel
noncomputable def gH139 : sHt := ([], [], [], [], [(4, [137]), (32, [138])], [])
theorem gK139 : cChk 139 gCT gRU gC139 0 gH139 3000 = true := by decide +kernel
noncomputable def gH140 : sHt := ([], [], [], [], [(2, [136]), (11, [96]), (27, [115]), (42, [139]), (45, [134])], [])
theorem gK140 : cChk 140 gCT gRU gC140 0 gH140 3000 = true := by decide +kernel
noncomputable def gH141 : sHt := ([], [], [], [], [(2, [90])], [])
theorem gK141 : cChk 141 gCT gRU gC141 0 gH141 3000 = true := by decide +kernel
noncomputable def gH142 : sHt := ([], [], [], [], [(2, [89]), (18, [115]), (31, [141]), (34, [134])], [])
theorem gK142 : cChk 142 gCT gRU gC142 0 gH142 3000 = true := by decide +kernel
noncomputable def gH143 : sHt := ([], [], [(0, [[142]]), (12, [[143]])], [], [(9, [0]), (10, [0])], [])
theorem gK143 : cChk 143 gCT gRU gC143 0 gH143 3000 = true := by decide +kernel
noncomputable def gH144 : sHt := ([], [], [], [], [(3, [137]), (25, [143])], [])
theorem gK144 : cChk 144 gCT gRU gC144 0 gH144 3000 = true := by decide +kernel
noncomputable def gH145 : sHt := ([], [], [], [], [(3, [96]), (19, [115]), (33, [144]), (36, [134])], [])
theorem gK145 : cChk 145 gCT gRU gC145 0 gH145 3000 = true := by decide +kernel
noncomputable def gH146 : sHt := ([], [], [], [], [(3, [97])], [])
theorem gK146 : cChk 146 gCT gRU gC146 0 gH146 3000 = true := by decide +kernel
noncomputable def gH147 : sHt := ([], [], [], [], [(3, [96]), (19, [115]), (33, [146]), (36, [134])], [])
theorem gK147 : cChk 147 gCT gRU gC147 0 gH147 3000 = true := by decide +kernel
noncomputable def gH148 : sHt := ([], [], [], [], [(37, [114])], [])
theorem gK148 : cChk 148 gCT gRU gC148 0 gH148 3000 = true := by decide +kernel
noncomputable def gH149 : sHt := ([], [], [], [], [(8, [148])], [])
theorem gK149 : cChk 149 gCT gRU gC149 0 gH149 3000 = true := by decide +kernel
noncomputable def gH150 : sHt := ([], [], [], [], [(3, [96]), (13, [113]), (36, [127])], [])
theorem gK150 : cChk 150 gCT gRU gC150 0 gH150 3000 = true := by decide +kernel
noncomputable def gH151 : sHt := ([], [], [], [], [(2, [89]), (10, [106]), (20, [113]), (44, [127])], [])
theorem gK151 : cChk 151 gCT gRU gC151 0 gH151 3000 = true := by decide +kernel
noncomputable def gH152 : sHt := ([], [], [], [], [(2, [102]), (10, [106]), (20, [113]), (43, [127])], [])
theorem gK152 : cChk 152 gCT gRU gC152 0 gH152 3000 = true := by decide +kernel
noncomputable def gH153 : sHt := ([], [], [], [], [(2, [106]), (11, [113]), (34, [127]), (42, [130])], [])
theorem gK153 : cChk 153 gCT gRU gC153 0 gH153 3000 = true := by decide +kernel
noncomputable def gH154 : sHt := ([], [], [], [], [(2, [102]), (11, [113]), (33, [127])], [])
theorem gK154 : cChk 154 gCT gRU gC154 0 gH154 3000 = true := by decide +kernel
noncomputable def gH155 : sHt := ([(4, ((3, [(1, .ofNat 0, .ofNat 72), (2, .ofNat 0, .ofNat 8)], [(.ofNat 0, [(.ofNat 1, 1), (.negSucc 8, 2)])], []), [(18, .ofNat 0, [(.ofNat 1, 0)]), (1, .ofNat 0, [(.ofNat 1, 1)]), (1, .ofNat 0, [(.ofNat 1, 2)])], ([], [])), (.ofNat 8, [(.negSucc 0, 2)]))], [(4, false)], [], [], [], [])
theorem gK155 : cChk 155 gCT gRU gC155 2 gH155 3000 = true := by decide +kernel
noncomputable def gH156 : sHt := ([(7, ((5, [(0, .ofNat 0, .ofNat 2147483647), (1, .ofNat 0, .ofNat 2147483647), (2, .ofNat 0, .ofNat 2147483647), (3, .ofNat 0, .ofNat 2147483647), (4, .ofNat 0, .ofNat 100)], [], []), [(1, .ofNat 0, [(.ofNat 1, 0)]), (1, .ofNat 0, [(.ofNat 1, 1)]), (1, .ofNat 0, [(.ofNat 1, 2)]), (1, .ofNat 0, [(.ofNat 1, 3)]), (1, .ofNat 0, [(.ofNat 1, 4)]), (0, .ofNat 0, [])], ([], [])), (.ofNat 100, [(.negSucc 0, 4)]))], [(7, false)], [], [], [], [])
theorem gK156 : cChk 156 gCT gRU gC156 4 gH156 3000 = true := by decide +kernel
noncomputable def gH157 : sHt := ([(49, ((9, [(0, .ofNat 0, .ofNat 3), (1, .ofNat 0, .ofNat 2), (2, .ofNat 0, .ofNat 1), (3, .ofNat 0, .ofNat 72), (4, .ofNat 0, .ofNat 8), (6, .ofNat 1, .ofNat 8), (7, .ofNat 1, .ofNat 3), (8, .ofNat 1, .ofNat 4)], [(.ofNat 1, [(.ofNat 1, 0), (.negSucc 0, 8)]), (.ofNat 1, [(.ofNat 1, 1), (.negSucc 0, 7)]), (.ofNat 0, [(.ofNat 1, 3), (.negSucc 8, 4)])], []), [(16, .ofNat 0, []), (1, .ofNat 0, [(.ofNat 1, 0)]), (1, .ofNat 0, [(.ofNat 1, 1)]), (1, .ofNat 0, [(.ofNat 1, 2)]), (1, .ofNat 0, [(.ofNat 1, 3)]), (1, .ofNat 0, [(.ofNat 1, 4)]), (0, .ofNat 0, []), (0, .ofNat 0, [])], ([((0, .ofNat 0, []), (.ofNat 6, []), 18, .ofNat 0, [(.ofNat 1, 5)]), ((2, .ofNat 0, [(.ofNat 1, 5)]), (.ofNat 5, []), 1, .ofNat 0, [(.ofNat 1, 6)]), ((2, .ofNat 0, [(.ofNat 1, 5)]), (.ofNat 3, []), 1, .ofNat 0, [(.ofNat 1, 7)]), ((2, .ofNat 0, [(.ofNat 1, 5)]), (.ofNat 2, []), 1, .ofNat 0, [(.ofNat 1, 8)])], [])), (.ofNat 8, [(.negSucc 0, 4)]))], [(49, false)], [], [], [(2, [102]), (10, [106]), (93, [127]), (101, [130]), (133, [155]), (142, [156])], [])
theorem gK157 : cChk 157 gCT gRU gC157 4 gH157 3000 = true := by decide +kernel
noncomputable def gH158 : sHt := ([(52, ((9, [(0, .ofNat 0, .ofNat 2), (1, .ofNat 0, .ofNat 4), (2, .ofNat 1, .ofNat 4), (3, .negSucc 0, .ofNat 3), (4, .negSucc 2147483647, .ofNat 2147483647), (5, .ofNat 0, .ofNat 14), (8, .ofNat 1, .ofNat 3)], [(.ofNat 1, [(.ofNat 1, 0), (.negSucc 0, 8)])], []), [(16, .ofNat 0, []), (1, .ofNat 0, [(.ofNat 1, 0)]), (1, .ofNat 0, [(.ofNat 1, 1)]), (1, .ofNat 0, [(.ofNat 1, 2)]), (1, .ofNat 0, [(.ofNat 1, 3)]), (1, .ofNat 0, [(.ofNat 1, 4)]), (1, .ofNat 0, [(.ofNat 1, 5)]), (0, .ofNat 0, []), (0, .ofNat 0, [])], ([((0, .ofNat 0, []), (.ofNat 8, []), 31, .ofNat 0, [(.ofNat 1, 6)]), ((0, .ofNat 0, []), (.ofNat 17, []), 65, .ofNat 182, []), ((0, .ofNat 0, []), (.ofNat 6, []), 18, .ofNat 0, [(.ofNat 1, 7)]), ((2, .ofNat 0, [(.ofNat 1, 7)]), (.ofNat 3, []), 1, .ofNat 0, [(.ofNat 1, 8)])], [])), (.ofNat 14, [(.negSucc 0, 5)]))], [(52, false)], [], [], [(2, [106]), (11, [113]), (33, [127]), (41, [130]), (130, [130])], [])
theorem gK158 : cChk 158 gCT gRU gC158 5 gH158 3000 = true := by decide +kernel
end CkChk7
