section CkChk4
noncomputable def gH81 : sHt := ([], [], [], [], [], [])
theorem gK81 : cChk 81 gCT gRU gC81 0 gH81 3000 = true := by decide +kernel
noncomputable def gH82 : sHt := ([(4, ((3, [(2, .ofNat 0, .ofNat 3)], [], []), [(16, .ofNat 0, []), (1, .ofNat 0, [(.ofNat 1, 0)]), (1, .ofNat 0, [(.ofNat 1, 1)]), (1, .ofNat 0, [(.ofNat 1, 2)])], ([], [])), (.ofNat 3, [(.negSucc 0, 2)]))], [(4, false)], [], [], [], [])
theorem gK82 : cChk 82 gCT gRU gC82 2 gH82 3000 = true := by decide +kernel
noncomputable def gH83 : sHt := ([(4, ((3, [(2, .ofNat 0, .ofNat 100)], [], []), [(16, .ofNat 0, []), (1, .ofNat 0, [(.ofNat 1, 0)]), (1, .ofNat 0, [(.ofNat 1, 1)]), (1, .ofNat 0, [(.ofNat 1, 2)])], ([], [])), (.ofNat 100, [(.negSucc 0, 2)]))], [(4, false)], [], [], [(19, [79])], [])
theorem gK83 : cChk 83 gCT gRU gC83 2 gH83 3000 = true := by decide +kernel
noncomputable def gH84 : sHt := ([], [], [], [], [(2, [81]), (42, [83]), (48, [82])], [])
theorem gK84 : cChk 84 gCT gRU gC84 0 gH84 3000 = true := by decide +kernel
noncomputable def gH85 : sHt := ([], [], [], [], [], [])
theorem gK85 : cChk 85 gCT gRU gC85 0 gH85 3000 = true := by decide +kernel
noncomputable def gH86 : sHt := ([(4, ((3, [(0, .ofNat 0, .ofNat 2), (2, .ofNat 0, .ofNat 14)], [], []), [(16, .ofNat 0, []), (1, .ofNat 0, [(.ofNat 1, 0)]), (1, .ofNat 0, [(.ofNat 1, 1)]), (1, .ofNat 0, [(.ofNat 1, 2)])], ([], [])), (.ofNat 14, [(.negSucc 0, 2)]))], [(4, false)], [], [], [(25, [73])], [])
theorem gK86 : cChk 86 gCT gRU gC86 2 gH86 3000 = true := by decide +kernel
noncomputable def gH87 : sHt := ([], [], [], [], [(2, [85]), (72, [86])], [])
theorem gK87 : cChk 87 gCT gRU gC87 0 gH87 3000 = true := by decide +kernel
noncomputable def gH88 : sHt := ([(4, ((4, [(3, .ofNat 0, .ofNat 14)], [], []), [(31, .ofNat 0, [(.ofNat 1, 0)]), (18, .ofNat 0, [(.ofNat 1, 1)]), (1, .ofNat 0, [(.ofNat 1, 2)]), (1, .ofNat 0, [(.ofNat 1, 3)])], ([], [])), (.ofNat 14, [(.negSucc 0, 3)]))], [(4, false)], [], [], [(16, [75])], [])
theorem gK88 : cChk 88 gCT gRU gC88 2 gH88 3000 = true := by decide +kernel
noncomputable def gH89 : sHt := ([], [], [], [], [], [])
theorem gK89 : cChk 89 gCT gRU gC89 0 gH89 3000 = true := by decide +kernel
noncomputable def gH90 : sHt := ([(4, ((3, [(2, .ofNat 0, .ofNat 10)], [], []), [(31, .ofNat 0, [(.ofNat 1, 0)]), (1, .ofNat 0, [(.ofNat 1, 1)]), (1, .ofNat 0, [(.ofNat 1, 2)])], ([], [])), (.ofNat 10, [(.negSucc 0, 2)]))], [(4, false)], [], [], [(17, [89])], [])
theorem gK90 : cChk 90 gCT gRU gC90 2 gH90 3000 = true := by decide +kernel
noncomputable def gH91 : sHt := ([], [], [], [], [(68, [90]), (80, [88])], [])
theorem gK91 : cChk 91 gCT gRU gC91 0 gH91 3000 = true := by decide +kernel
noncomputable def gH92 : sHt := ([], [], [], [], [], [])
theorem gK92 : cChk 92 gCT gRU gC92 0 gH92 3000 = true := by decide +kernel
noncomputable def gH93 : sHt := ([], [], [], [], [], [])
theorem gK93 : cChk 93 gCT gRU gC93 0 gH93 3000 = true := by decide +kernel
noncomputable def gH94 : sHt := ([], [], [], [], [(5, [93])], [])
theorem gK94 : cChk 94 gCT gRU gC94 0 gH94 3000 = true := by decide +kernel
noncomputable def gH95 : sHt := ([(5, ((1, [(0, .ofNat 0, .ofNat 100)], [], []), [(66, .ofNat 183, []), (1, .ofNat 0, []), (1, .ofNat 0, [(.ofNat 1, 0)]), (1, .ofNat 100, [])], ([], [])), (.ofNat 100, [(.negSucc 0, 0)]))], [(5, false)], [], [], [], [])
theorem gK95 : cChk 95 gCT gRU gC95 2 gH95 3000 = true := by decide +kernel
noncomputable def gH96 : sHt := ([(5, ((1, [(0, .ofNat 0, .ofNat 42)], [], []), [(67, .ofNat 184, []), (1, .negSucc 0, []), (1, .ofNat 0, [(.ofNat 1, 0)]), (1, .ofNat 42, [])], ([], [])), (.ofNat 42, [(.negSucc 0, 0)]))], [(5, false)], [], [], [], [])
theorem gK96 : cChk 96 gCT gRU gC96 2 gH96 3000 = true := by decide +kernel
noncomputable def gH97 : sHt := ([(5, ((1, [(0, .ofNat 0, .ofNat 12)], [], []), [(68, .ofNat 185, []), (1, .ofNat 0, []), (1, .ofNat 0, [(.ofNat 1, 0)]), (1, .ofNat 12, [])], ([], [])), (.ofNat 12, [(.negSucc 0, 0)]))], [(5, false)], [], [], [], [])
theorem gK97 : cChk 97 gCT gRU gC97 2 gH97 3000 = true := by decide +kernel
noncomputable def gH98 : sHt := ([(5, ((1, [(0, .ofNat 0, .ofNat 4)], [], []), [(69, .ofNat 186, []), (1, .ofNat 0, []), (1, .ofNat 0, [(.ofNat 1, 0)]), (1, .ofNat 4, [])], ([], [])), (.ofNat 4, [(.negSucc 0, 0)]))], [(5, false)], [], [], [], [])
theorem gK98 : cChk 98 gCT gRU gC98 2 gH98 3000 = true := by decide +kernel
noncomputable def gH99 : sHt := ([(32, ((10, [(1, .ofNat 0, .ofNat 9), (2, .ofNat 0, .ofNat 9), (3, .ofNat 0, .ofNat 4), (4, .ofNat 0, .ofNat 9), (5, .ofNat 0, .ofNat 9), (8, .ofNat 0, .ofNat 1), (9, .ofNat 0, .ofNat 5)], [(.negSucc 0, [(.negSucc 0, 3)]), (.negSucc 0, [(.negSucc 0, 3), (.ofNat 1, 9)])], []), [(65, .ofNat 182, []), (1, .ofNat 0, [(.ofNat 1, 0)]), (1, .ofNat 0, [(.ofNat 1, 1)]), (1, .ofNat 0, [(.ofNat 1, 2)]), (1, .ofNat 0, [(.ofNat 1, 4)]), (1, .ofNat 0, [(.ofNat 1, 5)]), (1, .ofNat 0, [(.ofNat 1, 6)]), (1, .ofNat 0, [(.ofNat 1, 7)]), (1, .ofNat 0, [(.ofNat 1, 8)]), (1, .ofNat 0, [(.ofNat 1, 9)]), (0, .ofNat 0, []), (0, .ofNat 0, [])], ([((49, .ofNat 182, []), (.ofNat 8, []), 1, .ofNat 0, [(.ofNat 1, 3)])], [(0, [(.ofNat 0, [(.ofNat 1, 9)])])])), (.ofNat 5, [(.negSucc 0, 9)]))], [(32, false)], [(0, [[2]]), (234, [[3], [4]])], [62, 75], [(125, [34]), (205, [78]), (230, [79])], [])
theorem gK99 : cChk 99 gCT gRU gC99 8 gH99 3000 = true := by decide +kernel
noncomputable def gH100 : sHt := ([(2, ((2, [(0, .ofNat 0, .ofNat 4), (1, .ofNat 0, .ofNat 5)], [], []), [(65, .ofNat 182, []), (1, .ofNat 0, [(.ofNat 1, 1)])], ([((49, .ofNat 182, []), (.ofNat 8, []), 1, .ofNat 0, [(.ofNat 1, 0)])], [(0, [(.ofNat 1, [(.ofNat 1, 0)])])])), (.ofNat 5, [(.negSucc 0, 1)]))], [(2, false)], [], [], [], [])
theorem gK100 : cChk 100 gCT gRU gC100 1 gH100 3000 = true := by decide +kernel
end CkChk4
