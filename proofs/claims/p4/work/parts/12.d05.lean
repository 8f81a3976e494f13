section CkChk5
noncomputable def gH83 : sHt := ([], [], [], [], [], [])
theorem gK83 : cChk 83 gCT gRU gC83 0 gH83 3000 = true := by decide +kernel
noncomputable def gH84 : sHt := ([], [], [], [], [], [])
theorem gK84 : cChk 84 gCT gRU gC84 0 gH84 3000 = true := by decide +kernel
noncomputable def gH85 : sHt := ([], [], [(50, [[224], [225]]), (102, [[224], [226]])], [], [(4, [8]), (19, [82]), (91, [83]), (98, [84])], [])
theorem gK85 : cChk 85 gCT gRU gC85 3 gH85 3000 = true := by decide +kernel
noncomputable def gH86 : sHt := ([], [], [], [], [], [])
theorem gK86 : cChk 86 gCT gRU gC86 0 gH86 3000 = true := by decide +kernel
noncomputable def gH87 : sHt := ([], [], [(50, [[227], [225]]), (102, [[227], [226]])], [], [(4, [8]), (19, [82]), (91, [86]), (98, [84])], [])
theorem gK87 : cChk 87 gCT gRU gC87 3 gH87 3000 = true := by decide +kernel
noncomputable def gH88 : sHt := ([], [], [], [], [], [])
theorem gK88 : cChk 88 gCT gRU gC88 0 gH88 3000 = true := by decide +kernel
noncomputable def gH89 : sHt := ([], [], [], [], [], [])
theorem gK89 : cChk 89 gCT gRU gC89 0 gH89 3000 = true := by decide +kernel
noncomputable def gH90 : sHt := ([], [], [(16, [[135]])], [], [(5, [0]), (7, [0])], [])
theorem gK90 : cChk 90 gCT gRU gC90 0 gH90 3000 = true := by decide +kernel
noncomputable def gH91 : sHt := ([], [], [], [], [], [])
theorem gK91 : cChk 91 gCT gRU gC91 4 gH91 3000 = true := by decide +kernel
noncomputable def gH92 : sHt := ([], [], [], [], [(2, [90]), (22, [91])], [])
theorem gK92 : cChk 92 gCT gRU gC92 0 gH92 3000 = true := by decide +kernel
noncomputable def gH93 : sHt := ([(4, ((3, [(0, .ofNat 0, .ofNat 13), (1, .negSucc 2147483647, .ofNat 2147483647), (2, .ofNat 0, .ofNat 3)], [], []), [(16, .ofNat 0, []), (1, .ofNat 0, [(.ofNat 1, 0)]), (1, .ofNat 0, [(.ofNat 1, 1)]), (1, .ofNat 0, [(.ofNat 1, 2)])], ([], [])), (.ofNat 3, [(.negSucc 0, 2)]))], [(4, false)], [], [], [(25, [92])], [])
theorem gK93 : cChk 93 gCT gRU gC93 2 gH93 3000 = true := by decide +kernel
noncomputable def gH94 : sHt := ([], [], [], [], [(2, [90])], [])
theorem gK94 : cChk 94 gCT gRU gC94 1 gH94 3000 = true := by decide +kernel
noncomputable def gH95 : sHt := ([], [], [], [], [(2, [89]), (99, [94]), (123, [93])], [])
theorem gK95 : cChk 95 gCT gRU gC95 0 gH95 3000 = true := by decide +kernel
noncomputable def gH96 : sHt := ([], [], [], [], [], [])
theorem gK96 : cChk 96 gCT gRU gC96 0 gH96 3000 = true := by decide +kernel
noncomputable def gH97 : sHt := ([], [], [], [], [], [])
theorem gK97 : cChk 97 gCT gRU gC97 0 gH97 3000 = true := by decide +kernel
noncomputable def gH98 : sHt := ([], [], [(14, [[126]]), (18, [[127]])], [], [(7, [0]), (9, [0])], [])
theorem gK98 : cChk 98 gCT gRU gC98 0 gH98 3000 = true := by decide +kernel
noncomputable def gH99 : sHt := ([(2, ((4, [(1, .ofNat 0, .ofNat 9), (2, .ofNat 0, .ofNat 9), (3, .ofNat 0, .ofNat 14)], [], []), [(31, .ofNat 0, [(.ofNat 1, 0)]), (1, .ofNat 0, [(.ofNat 1, 1)]), (1, .ofNat 0, [(.ofNat 1, 2)]), (1, .ofNat 0, [(.ofNat 1, 3)])], ([], [])), (.ofNat 14, [(.negSucc 0, 3)]))], [(2, false)], [(0, [[128]]), (10, [[129], [130]]), (38, [[136]]), (40, [[131, 132, 133, 134]]), (46, [[137]])], [], [(32, [90])], [])
theorem gK99 : cChk 99 gCT gRU gC99 1 gH99 3000 = true := by decide +kernel
noncomputable def gH100 : sHt := ([], [], [], [], [], [])
theorem gK100 : cChk 100 gCT gRU gC100 2 gH100 3000 = true := by decide +kernel
noncomputable def gH101 : sHt := ([], [], [], [], [(3, [96]), (70, [100]), (91, [99]), (101, [98]), (119, [97])], [])
theorem gK101 : cChk 101 gCT gRU gC101 1 gH101 3000 = true := by decide +kernel
noncomputable def gH102 : sHt := ([], [], [], [], [], [])
theorem gK102 : cChk 102 gCT gRU gC102 0 gH102 3000 = true := by decide +kernel
noncomputable def gH103 : sHt := ([(4, ((3, [(0, .negSucc 2147483647, .ofNat 2147483647), (1, .negSucc 2147483647, .ofNat 2147483647), (2, .ofNat 0, .ofNat 3)], [], []), [(16, .ofNat 0, []), (1, .ofNat 0, [(.ofNat 1, 0)]), (1, .ofNat 0, [(.ofNat 1, 1)]), (1, .ofNat 0, [(.ofNat 1, 2)])], ([], [])), (.ofNat 3, [(.negSucc 0, 2)]))], [(4, false)], [], [], [], [])
theorem gK103 : cChk 103 gCT gRU gC103 2 gH103 3000 = true := by decide +kernel
noncomputable def gH104 : sHt := ([(4, ((3, [(0, .negSucc 2147483647, .ofNat 2147483647), (1, .negSucc 2147483647, .ofNat 2147483647), (2, .ofNat 0, .ofNat 100)], [], []), [(16, .ofNat 0, []), (1, .ofNat 0, [(.ofNat 1, 0)]), (1, .ofNat 0, [(.ofNat 1, 1)]), (1, .ofNat 0, [(.ofNat 1, 2)])], ([], [])), (.ofNat 100, [(.negSucc 0, 2)]))], [(4, false)], [], [], [(19, [100])], [])
theorem gK104 : cChk 104 gCT gRU gC104 2 gH104 3000 = true := by decide +kernel
noncomputable def gH105 : sHt := ([], [], [], [], [(2, [102]), (42, [104]), (48, [103])], [])
theorem gK105 : cChk 105 gCT gRU gC105 0 gH105 3000 = true := by decide +kernel
noncomputable def gH106 : sHt := ([], [], [], [], [], [])
theorem gK106 : cChk 106 gCT gRU gC106 0 gH106 3000 = true := by decide +kernel
noncomputable def gH107 : sHt := ([(4, ((3, [(0, .ofNat 0, .ofNat 2), (1, .negSucc 2147483647, .ofNat 2147483647), (2, .ofNat 0, .ofNat 14)], [], []), [(16, .ofNat 0, []), (1, .ofNat 0, [(.ofNat 1, 0)]), (1, .ofNat 0, [(.ofNat 1, 1)]), (1, .ofNat 0, [(.ofNat 1, 2)])], ([], [])), (.ofNat 14, [(.negSucc 0, 2)]))], [(4, false)], [], [], [(25, [92])], [])
theorem gK107 : cChk 107 gCT gRU gC107 2 gH107 3000 = true := by decide +kernel
noncomputable def gH108 : sHt := ([], [], [], [], [(2, [106]), (72, [107])], [])
theorem gK108 : cChk 108 gCT gRU gC108 0 gH108 3000 = true := by decide +kernel
noncomputable def gH109 : sHt := ([(4, ((4, [(2, .negSucc 2147483647, .ofNat 2147483647), (3, .ofNat 0, .ofNat 14)], [], []), [(31, .ofNat 0, [(.ofNat 1, 0)]), (18, .ofNat 0, [(.ofNat 1, 1)]), (1, .ofNat 0, [(.ofNat 1, 2)]), (1, .ofNat 0, [(.ofNat 1, 3)])], ([], [])), (.ofNat 14, [(.negSucc 0, 3)]))], [(4, false)], [], [], [(16, [94])], [])
theorem gK109 : cChk 109 gCT gRU gC109 2 gH109 3000 = true := by decide +kernel
noncomputable def gH110 : sHt := ([], [], [], [], [], [])
theorem gK110 : cChk 110 gCT gRU gC110 0 gH110 3000 = true := by decide +kernel
noncomputable def gH111 : sHt := ([(4, ((3, [(1, .negSucc 2147483647, .ofNat 2147483647), (2, .ofNat 0, .ofNat 10)], [], []), [(31, .ofNat 0, [(.ofNat 1, 0)]), (1, .ofNat 0, [(.ofNat 1, 1)]), (1, .ofNat 0, [(.ofNat 1, 2)])], ([], [])), (.ofNat 10, [(.negSucc 0, 2)]))], [(4, false)], [], [], [(17, [110])], [])
theorem gK111 : cChk 111 gCT gRU gC111 2 gH111 3000 = true := by decide +kernel
noncomputable def gH112 : sHt := ([], [], [], [], [(68, [111]), (80, [109])], [])
theorem gK112 : cChk 112 gCT gRU gC112 0 gH112 3000 = true := by decide +kernel
noncomputable def gH113 : sHt := ([], [], [], [], [], [])
theorem gK113 : cChk 113 gCT gRU gC113 0 gH113 3000 = true := by decide +kernel
end CkChk5
