section CkChk3
noncomputable def gH76 : sHt := ([], [], [(11, [[233]]), (19, [[234]]), (32, [[235]]), (67, [[254]])], [], [(16, [20]), (29, [60, 61]), (41, [72, 75]), (71, [24])], [])
theorem gK76 : cChk 76 gCT gRU gC76 0 gH76 3000 = true := by decide +kernel
noncomputable def gH77 : sHt := ([], [], [], [], [], [])
theorem gK77 : cChk 77 gCT gRU gC77 1 gH77 3000 = true := by decide +kernel
noncomputable def gH78 : sHt := ([], [], [(23, [[172, 179, 180], [173, 174, 175], [176, 177, 178]]), (31, [[181], [182]]), (43, [[193], [194], [195]]), (54, [[196, 205], [197, 198, 199, 200, 201, 202], [203, 204]])], [], [(10, [24]), (17, [51, 52, 54, 55, 56]), (25, [20, 27]), (36, [53]), (56, [20, 27])], [])
theorem gK78 : cChk 78 gCT gRU gC78 1 gH78 3000 = true := by decide +kernel
noncomputable def gH79 : sHt := ([], [], [(9, [[255]]), (17, [[256]]), (31, [[257]]), (57, [[258]])], [], [(14, [20]), (27, [77, 78]), (34, [72, 75]), (61, [24])], [])
theorem gK79 : cChk 79 gCT gRU gC79 1 gH79 3000 = true := by decide +kernel
noncomputable def gH80 : sHt := ([], [], [(11, [[259]]), (19, [[260]]), (55, [[261]])], [], [(16, [20]), (29, [60, 61]), (59, [24])], [])
theorem gK80 : cChk 80 gCT gRU gC80 0 gH80 3000 = true := by decide +kernel
noncomputable def gH81 : sHt := ([], [], [(44, [[262, 263, 264, 265, 266]]), (52, [[267]]), (63, [[268]]), (105, [[269]])], [], [(49, [20]), (59, [32, 36]), (70, [32, 36]), (109, [24])], [])
theorem gK81 : cChk 81 gCT gRU gC81 2 gH81 3000 = true := by decide +kernel
noncomputable def gH82 : sHt := ([(43, ((19, [(1, .ofNat 0, .ofNat 471), (2, .ofNat 0, .ofNat 940), (3, .ofNat 0, .ofNat 940), (4, .ofNat 0, .ofNat 3), (5, .negSucc 0, .ofNat 99), (6, .ofNat 0, .ofNat 940), (7, .ofNat 0, .ofNat 940), (8, .ofNat 0, .ofNat 8), (9, .ofNat 0, .ofNat 1), (10, .ofNat 0, .ofNat 14), (11, .ofNat 0, .ofNat 10), (12, .ofNat 1, .ofNat 10), (13, .ofNat 1, .ofNat 10), (14, .ofNat 0, .ofNat 4), (15, .ofNat 0, .ofNat 3), (16, .ofNat 0, .ofNat 5), (17, .ofNat 0, .ofNat 8), (18, .ofNat 0, .ofNat 940)], [], []), [(59, .ofNat 176, []), (114, .ofNat 15, []), (31, .ofNat 0, [(.ofNat 1, 0)]), (1, .ofNat 0, [(.ofNat 1, 1)])], ([((40, .ofNat 173, []), (.ofNat 4, []), 1, .ofNat 0, [(.ofNat 1, 2)]), ((40, .ofNat 173, []), (.ofNat 9, []), 1, .ofNat 0, []), ((40, .ofNat 173, []), (.ofNat 5, []), 1, .ofNat 0, [(.ofNat 1, 3)]), ((40, .ofNat 173, []), (.ofNat 6, []), 1, .ofNat 0, [(.ofNat 1, 4)]), ((40, .ofNat 173, []), (.ofNat 7, []), 1, .ofNat 0, [(.ofNat 1, 5)]), ((40, .ofNat 173, []), (.ofNat 3, []), 1, .ofNat 0, [(.ofNat 1, 6)]), ((40, .ofNat 173, []), (.ofNat 2, []), 1, .ofNat 0, [(.ofNat 1, 7)]), ((43, .ofNat 176, []), (.ofNat 0, []), 56, .ofNat 173, []), ((43, .ofNat 176, []), (.ofNat 4, []), 1, .ofNat 0, [(.ofNat 1, 8)]), ((43, .ofNat 176, []), (.ofNat 3, []), 1, .ofNat 0, [(.ofNat 1, 9)]), ((15, .ofNat 0, [(.ofNat 1, 0)]), (.ofNat 1, []), 1, .ofNat 0, [(.ofNat 1, 10)]), ((15, .ofNat 0, [(.ofNat 1, 0)]), (.ofNat 3, []), 1, .ofNat 0, [(.ofNat 1, 11)]), ((98, .ofNat 15, []), (.ofNat 0, []), 1, .ofNat 0, [(.ofNat 1, 12)]), ((98, .ofNat 15, []), (.ofNat 1, []), 1, .ofNat 0, [(.ofNat 1, 13)]), ((98, .ofNat 15, []), (.ofNat 2, []), 1, .ofNat 0, [(.ofNat 1, 14)]), ((98, .ofNat 15, []), (.ofNat 3, []), 1, .ofNat 0, [(.ofNat 1, 15)]), ((98, .ofNat 15, []), (.ofNat 4, []), 1, .ofNat 0, [(.ofNat 1, 16)]), ((98, .ofNat 15, []), (.ofNat 5, []), 1, .ofNat 0, [(.ofNat 1, 17)]), ((43, .ofNat 176, []), (.ofNat 2, []), 31, .ofNat 0, [(.ofNat 1, 0)]), ((43, .ofNat 176, []), (.ofNat 1, []), 114, .ofNat 15, []), ((40, .ofNat 173, []), (.ofNat 1, []), 17, .ofNat 1, [])], [(51, []), (59, [(.ofNat 0, [(.ofNat 1, 1)]), (.ofNat 0, [(.ofNat 1, 14)]), (.ofNat 0, [(.ofNat 1, 15)]), (.ofNat 0, [(.ofNat 1, 16)]), (.ofNat 0, [(.ofNat 1, 17)]), (.ofNat 0, [(.ofNat 1, 10)]), (.ofNat 0, [(.ofNat 1, 11)]), (.ofNat 0, [(.ofNat 1, 8)]), (.ofNat 0, [(.ofNat 1, 9)]), (.ofNat 0, [(.ofNat 1, 12)]), (.ofNat 0, [(.ofNat 1, 13)])]), (61, [(.ofNat 0, [(.ofNat 1, 1)])]), (68, [(.ofNat 0, [(.ofNat 1, 1)])]), (72, [(.ofNat 0, [(.ofNat 1, 10)]), (.ofNat 0, [(.ofNat 1, 1)])]), (74, [(.ofNat 0, [(.ofNat 1, 1)])]), (75, [(.ofNat 0, [(.ofNat 1, 17)]), (.ofNat 0, [(.ofNat 1, 1)])]), (73, [(.ofNat 0, [(.ofNat 1, 10)])]), (53, [(.ofNat 0, [(.ofNat 1, 18)]), (.ofNat 0, []), (.ofNat 0, [(.ofNat 1, 1)]), (.ofNat 0, []), (.ofNat 0, []), (.ofNat 0, []), (.ofNat 0, []), (.ofNat 0, []), (.ofNat 0, []), (.ofNat 0, [(.ofNat 1, 4)]), (.ofNat 0, [(.ofNat 1, 3)]), (.ofNat 0, [(.ofNat 1, 2)]), (.ofNat 0, [(.ofNat 1, 5)])])])), (.ofNat 471, [(.negSucc 0, 1)])), (43, ((16, [(1, .ofNat 0, .ofNat 471), (2, .ofNat 0, .ofNat 940), (3, .ofNat 1, .ofNat 4), (4, .ofNat 0, .ofNat 940), (5, .ofNat 0, .ofNat 940), (6, .negSucc 2147483647, .ofNat 2147483647), (7, .ofNat 0, .ofNat 1), (8, .ofNat 0, .ofNat 14), (9, .negSucc 2147483647, .ofNat 2147483647), (10, .ofNat 1, .ofNat 10), (11, .ofNat 1, .ofNat 10), (12, .ofNat 0, .ofNat 4), (13, .ofNat 0, .ofNat 3), (14, .ofNat 0, .ofNat 5), (15, .ofNat 0, .ofNat 8)], [], []), [(59, .ofNat 176, []), (114, .ofNat 15, []), (31, .ofNat 0, [(.ofNat 1, 0)]), (1, .ofNat 0, [(.ofNat 1, 1)])], ([((40, .ofNat 173, []), (.ofNat 10, []), 1, .ofNat 0, [(.ofNat 1, 2)]), ((40, .ofNat 173, []), (.ofNat 9, []), 1, .ofNat 0, [(.ofNat 1, 3)]), ((40, .ofNat 173, []), (.ofNat 3, []), 1, .ofNat 0, [(.ofNat 1, 4)]), ((40, .ofNat 173, []), (.ofNat 2, []), 1, .ofNat 0, [(.ofNat 1, 5)]), ((43, .ofNat 176, []), (.ofNat 0, []), 56, .ofNat 173, []), ((43, .ofNat 176, []), (.ofNat 4, []), 1, .ofNat 0, [(.ofNat 1, 6)]), ((43, .ofNat 176, []), (.ofNat 3, []), 1, .ofNat 0, [(.ofNat 1, 7)]), ((15, .ofNat 0, [(.ofNat 1, 0)]), (.ofNat 1, []), 1, .ofNat 0, [(.ofNat 1, 8)]), ((15, .ofNat 0, [(.ofNat 1, 0)]), (.ofNat 3, []), 1, .ofNat 0, [(.ofNat 1, 9)]), ((98, .ofNat 15, []), (.ofNat 0, []), 1, .ofNat 0, [(.ofNat 1, 10)]), ((98, .ofNat 15, []), (.ofNat 1, []), 1, .ofNat 0, [(.ofNat 1, 11)]), ((98, .ofNat 15, []), (.ofNat 2, []), 1, .ofNat 0, [(.ofNat 1, 12)]), ((98, .ofNat 15, []), (.ofNat 3, []), 1, .ofNat 0, [(.ofNat 1, 13)]), ((98, .ofNat 15, []), (.ofNat 4, []), 1, .ofNat 0, [(.ofNat 1, 14)]), ((98, .ofNat 15, []), (.ofNat 5, []), 1, .ofNat 0, [(.ofNat 1, 15)]), ((43, .ofNat 176, []), (.ofNat 2, []), 31, .ofNat 0, [(.ofNat 1, 0)]), ((43, .ofNat 176, []), (.ofNat 1, []), 114, .ofNat 15, []), ((40, .ofNat 173, []), (.ofNat 1, []), 17, .ofNat 1, [])], [(51, []), (54, [(.ofNat 0, [(.ofNat 1, 3)]), (.ofNat 0, [(.ofNat 1, 2)])])])), (.ofNat 0, []))], [(43, false)], [(10, [[11]]), (36, [[24]]), (43, [[87], [88], [89]]), (70, [[90]]), (180, [[91, 92, 106, 107]]), (203, [[270]])], [], [(14, [12]), (21, [19]), (40, [24]), (74, [25, 29, 30]), (125, [81]), (132, [80]), (139, [79]), (146, [76]), (153, [71]), (160, [59]), (167, [49]), (174, [38]), (185, [20]), (194, [28, 43])], [])
theorem gK82 : cChk 82 gCT gRU gC82 1 gH82 3000 = true := by decide +kernel
noncomputable def gH83 : sHt := ([], [], [], [], [], [])
theorem gK83 : cChk 83 gCT gRU gC83 0 gH83 3000 = true := by decide +kernel
noncomputable def gH84 : sHt := ([], [], [], [], [], [])
theorem gK84 : cChk 84 gCT gRU gC84 0 gH84 3000 = true := by decide +kernel
noncomputable def gH85 : sHt := ([], [], [(50, [[271], [272]]), (102, [[271], [273], [274]])], [], [(4, [8]), (19, [82]), (91, [83]), (98, [84])], [])
theorem gK85 : cChk 85 gCT gRU gC85 3 gH85 3000 = true := by decide +kernel
noncomputable def gH86 : sHt := ([], [], [], [], [], [])
theorem gK86 : cChk 86 gCT gRU gC86 0 gH86 3000 = true := by decide +kernel
noncomputable def gH87 : sHt := ([], [], [(50, [[275], [272]]), (102, [[275], [273], [274]])], [], [(4, [8]), (19, [82]), (91, [86]), (98, [84])], [])
theorem gK87 : cChk 87 gCT gRU gC87 3 gH87 3000 = true := by decide +kernel
noncomputable def gH88 : sHt := ([], [], [], [], [], [])
theorem gK88 : cChk 88 gCT gRU gC88 0 gH88 3000 = true := by decide +kernel
noncomputable def gH89 : sHt := ([], [], [], [], [], [])
theorem gK89 : cChk 89 gCT gRU gC89 0 gH89 3000 = true := by decide +kernel
noncomputable def gH90 : sHt := ([], [], [(16, [[158]])], [], [(5, [0]), (7, [0])], [])
theorem gK90 : cChk 90 gCT gRU gC90 0 gH90 3000 = true := by decide +kernel
noncomputable def gH91 : sHt := ([], [], [], [], [], [])
theorem gK91 : cChk 91 gCT gRU gC91 4 gH91 3000 = true := by decide +kernel
noncomputable def gH92 : sHt := ([], [], [], [], [(2, [90]), (22, [91])], [])
theorem gK92 : cChk 92 gCT gRU gC92 0 gH92 3000 = true := by decide +kernel
noncomputable def gH93 : sHt := ([(4, ((3, [(0, .ofNat 0, .ofNat 13), (1, .negSucc 2147483647, .ofNat 2147483647), (2, .ofNat 0, .ofNat 3)], [], []), [(16, .ofNat 0, []), (1, .ofNat 0, [(.ofNat 1, 0)]), (1, .ofNat 0, [(.ofNat 1, 1)]), (1, .ofNat 0, [(.ofNat 1, 2)])], ([((0, .ofNat 0, []), (.ofNat 7, []), 114, .ofNat 15, []), ((0, .ofNat 0, []), (.ofNat 6, []), 18, .ofNat 2, [])], [])), (.ofNat 3, [(.negSucc 0, 2)]))], [(4, false)], [], [], [(25, [92])], [])
theorem gK93 : cChk 93 gCT gRU gC93 2 gH93 3000 = true := by decide +kernel
noncomputable def gH94 : sHt := ([], [], [], [], [(2, [90])], [])
theorem gK94 : cChk 94 gCT gRU gC94 1 gH94 3000 = true := by decide +kernel
noncomputable def gH95 : sHt := ([], [], [], [], [(2, [89]), (99, [94]), (123, [93])], [])
theorem gK95 : cChk 95 gCT gRU gC95 0 gH95 3000 = true := by decide +kernel
noncomputable def gH96 : sHt := ([], [], [], [], [], [])
theorem gK96 : cChk 96 gCT gRU gC96 0 gH96 3000 = true := by decide +kernel
noncomputable def gH97 : sHt := ([], [], [], [], [], [])
theorem gK97 : cChk 97 gCT gRU gC97 0 gH97 3000 = true := by decide +kernel
noncomputable def gH98 : sHt := ([], [], [(14, [[149]]), (18, [[150]])], [], [(7, [0]), (9, [0])], [])
theorem gK98 : cChk 98 gCT gRU gC98 0 gH98 3000 = true := by decide +kernel
noncomputable def gH99 : sHt := ([(2, ((4, [(1, .ofNat 0, .ofNat 9), (2, .ofNat 0, .ofNat 9), (3, .ofNat 0, .ofNat 14)], [], []), [(31, .ofNat 0, [(.ofNat 1, 0)]), (1, .ofNat 0, [(.ofNat 1, 1)]), (1, .ofNat 0, [(.ofNat 1, 2)]), (1, .ofNat 0, [(.ofNat 1, 3)])], ([], [])), (.ofNat 14, [(.negSucc 0, 3)]))], [(2, false)], [(0, [[151]]), (10, [[152], [153]]), (38, [[159]]), (40, [[154, 155, 156, 157]]), (46, [[160]])], [], [(32, [90])], [])
theorem gK99 : cChk 99 gCT gRU gC99 1 gH99 3000 = true := by decide +kernel
noncomputable def gH100 : sHt := ([], [], [], [], [], [])
theorem gK100 : cChk 100 gCT gRU gC100 2 gH100 3000 = true := by decide +kernel
noncomputable def gH101 : sHt := ([], [], [], [], [(3, [96]), (70, [100]), (91, [99]), (101, [98]), (119, [97])], [])
theorem gK101 : cChk 101 gCT gRU gC101 1 gH101 3000 = true := by decide +kernel
noncomputable def gH102 : sHt := ([], [], [], [], [], [])
theorem gK102 : cChk 102 gCT gRU gC102 0 gH102 3000 = true := by decide +kernel
noncomputable def gH103 : sHt := ([(4, ((3, [(0, .negSucc 2147483647, .ofNat 2147483647), (1, .negSucc 2147483647, .ofNat 2147483647), (2, .ofNat 0, .ofNat 3)], [], []), [(16, .ofNat 0, []), (1, .ofNat 0, [(.ofNat 1, 0)]), (1, .ofNat 0, [(.ofNat 1, 1)]), (1, .ofNat 0, [(.ofNat 1, 2)])], ([((0, .ofNat 0, []), (.ofNat 7, []), 114, .ofNat 15, []), ((0, .ofNat 0, []), (.ofNat 6, []), 18, .ofNat 2, [])], [])), (.ofNat 3, [(.negSucc 0, 2)]))], [(4, false)], [], [], [], [])
theorem gK103 : cChk 103 gCT gRU gC103 2 gH103 3000 = true := by decide +kernel
noncomputable def gH104 : sHt := ([(4, ((3, [(0, .negSucc 2147483647, .ofNat 2147483647), (1, .negSucc 2147483647, .ofNat 2147483647), (2, .ofNat 0, .ofNat 100)], [], []), [(16, .ofNat 0, []), (1, .ofNat 0, [(.ofNat 1, 0)]), (1, .ofNat 0, [(.ofNat 1, 1)]), (1, .ofNat 0, [(.ofNat 1, 2)])], ([((0, .ofNat 0, []), (.ofNat 7, []), 114, .ofNat 15, []), ((0, .ofNat 0, []), (.ofNat 6, []), 18, .ofNat 2, [])], [])), (.ofNat 100, [(.negSucc 0, 2)]))], [(4, false)], [], [], [(19, [100])], [])
theorem gK104 : cChk 104 gCT gRU gC104 2 gH104 3000 = true := by decide +kernel
noncomputable def gH105 : sHt := ([], [], [], [], [(2, [102]), (42, [104]), (48, [103])], [])
theorem gK105 : cChk 105 gCT gRU gC105 0 gH105 3000 = true := by decide +kernel
noncomputable def gH106 : sHt := ([], [], [], [], [], [])
theorem gK106 : cChk 106 gCT gRU gC106 0 gH106 3000 = true := by decide +kernel
noncomputable def gH107 : sHt := ([(4, ((3, [(0, .ofNat 0, .ofNat 2), (1, .negSucc 2147483647, .ofNat 2147483647), (2, .ofNat 0, .ofNat 14)], [], []), [(16, .ofNat 0, []), (1, .ofNat 0, [(.ofNat 1, 0)]), (1, .ofNat 0, [(.ofNat 1, 1)]), (1, .ofNat 0, [(.ofNat 1, 2)])], ([((0, .ofNat 0, []), (.ofNat 7, []), 114, .ofNat 15, []), ((0, .ofNat 0, []), (.ofNat 6, []), 18, .ofNat 2, [])], [])), (.ofNat 14, [(.negSucc 0, 2)]))], [(4, false)], [], [], [(25, [92])], [])
theorem gK107 : cChk 107 gCT gRU gC107 2 gH107 3000 = true := by decide +kernel
noncomputable def gH108 : sHt := ([], [], [], [], [(2, [106]), (72, [107])], [])
theorem gK108 : cChk 108 gCT gRU gC108 0 gH108 3000 = true := by decide +kernel
noncomputable def gH109 : sHt := ([(4, ((3, [(1, .negSucc 2147483647, .ofNat 2147483647), (2, .ofNat 0, .ofNat 14)], [], []), [(31, .ofNat 0, [(.ofNat 1, 0)]), (18, .ofNat 2, []), (1, .ofNat 0, [(.ofNat 1, 1)]), (1, .ofNat 0, [(.ofNat 1, 2)])], ([], [])), (.ofNat 14, [(.negSucc 0, 2)]))], [(4, false)], [], [], [(16, [94])], [])
theorem gK109 : cChk 109 gCT gRU gC109 2 gH109 3000 = true := by decide +kernel
noncomputable def gH110 : sHt := ([], [], [], [], [], [])
theorem gK110 : cChk 110 gCT gRU gC110 0 gH110 3000 = true := by decide +kernel
noncomputable def gH111 : sHt := ([(4, ((3, [(1, .negSucc 2147483647, .ofNat 2147483647), (2, .ofNat 0, .ofNat 10)], [], []), [(31, .ofNat 0, [(.ofNat 1, 0)]), (1, .ofNat 0, [(.ofNat 1, 1)]), (1, .ofNat 0, [(.ofNat 1, 2)])], ([], [])), (.ofNat 10, [(.negSucc 0, 2)]))], [(4, false)], [], [], [(17, [110])], [])
theorem gK111 : cChk 111 gCT gRU gC111 2 gH111 3000 = true := by decide +kernel
noncomputable def gH112 : sHt := ([], [], [], [], [(68, [111]), (80, [109])], [])
theorem gK112 : cChk 112 gCT gRU gC112 0 gH112 3000 = true := by decide +kernel
noncomputable def gH113 : sHt := ([], [], [], [], [], [])
theorem gK113 : cChk 113 gCT gRU gC113 0 gH113 3000 = true := by decide +kernel
noncomputable def gH114 : sHt := ([], [], [], [], [], [])
theorem gK114 : cChk 114 gCT gRU gC114 0 gH114 3000 = true := by decide +kernel
end CkChk3
