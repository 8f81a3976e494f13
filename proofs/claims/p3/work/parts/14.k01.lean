section CkChk1
noncomputable def gH21 : sHt := ([], [], [], [], [], [])
theorem gK21 : cChk 21 gCT gRU gC21 0 gH21 3000 = true := by decide +kernel
noncomputable def gH22 : sHt := ([], [], [], [], [], [])
theorem gK22 : cChk 22 gCT gRU gC22 0 gH22 3000 = true := by decide +kernel
noncomputable def gH23 : sHt := ([], [], [], [], [], [])
theorem gK23 : cChk 23 gCT gRU gC23 0 gH23 3000 = true := by decide +kernel
noncomputable def gH24 : sHt := ([], [], [], [], [(2, [22]), (10, [23])], [])
theorem gK24 : cChk 24 gCT gRU gC24 0 gH24 3000 = true := by decide +kernel
noncomputable def gH25 : sHt := ([], [], [], [], [], [])
theorem gK25 : cChk 25 gCT gRU gC25 1 gH25 3000 = true := by decide +kernel
noncomputable def gH26 : sHt := ([], [], [], [], [], [])
theorem gK26 : cChk 26 gCT gRU gC26 0 gH26 3000 = true := by decide +kernel
noncomputable def gH27 : sHt := ([], [], [], [], [], [])
theorem gK27 : cChk 27 gCT gRU gC27 0 gH27 3000 = true := by decide +kernel
noncomputable def gH28 : sHt := ([], [], [], [], [(10, [20]), (14, [21, 27]), (32, [16, 23])], [])
theorem gK28 : cChk 28 gCT gRU gC28 1 gH28 3000 = true := by decide +kernel
noncomputable def gH29 : sHt := ([], [], [], [], [(10, [20]), (23, [16, 23]), (47, [16, 23])], [])
theorem gK29 : cChk 29 gCT gRU gC29 0 gH29 3000 = true := by decide +kernel
noncomputable def gH30 : sHt := ([(2, ((4, [(3, .ofNat 0, .ofNat 8)], [], []), [(18, .ofNat 0, [(.ofNat 1, 0)]), (1, .ofNat 0, [(.ofNat 1, 1)]), (1, .ofNat 0, [(.ofNat 1, 2)]), (1, .ofNat 0, [(.ofNat 1, 3)])], ([], [])), (.ofNat 8, [(.negSucc 0, 3)]))], [(2, false)], [], [], [], [])
theorem gK30 : cChk 30 gCT gRU gC30 1 gH30 3000 = true := by decide +kernel
noncomputable def gH31 : sHt := ([], [], [], [], [(17, [16]), (24, [25, 28]), (34, [26, 29]), (54, [30]), (65, [16]), (75, [26, 29]), (154, [20])], [])
theorem gK31 : cChk 31 gCT gRU gC31 3 gH31 3000 = true := by decide +kernel
noncomputable def gH32 : sHt := ([], [], [], [], [], [])
theorem gK32 : cChk 32 gCT gRU gC32 0 gH32 3000 = true := by decide +kernel
noncomputable def gH33 : sHt := ([], [], [], [], [(2, [32]), (10, [16]), (21, [20])], [])
theorem gK33 : cChk 33 gCT gRU gC33 0 gH33 3000 = true := by decide +kernel
noncomputable def gH34 : sHt := ([], [], [], [], [], [])
theorem gK34 : cChk 34 gCT gRU gC34 0 gH34 3000 = true := by decide +kernel
noncomputable def gH35 : sHt := ([], [], [], [], [], [])
theorem gK35 : cChk 35 gCT gRU gC35 0 gH35 3000 = true := by decide +kernel
noncomputable def gH36 : sHt := ([(2, ((4, [(3, .ofNat 0, .ofNat 14)], [], []), [(31, .ofNat 0, [(.ofNat 1, 0)]), (1, .ofNat 0, [(.ofNat 1, 1)]), (1, .ofNat 0, [(.ofNat 1, 2)]), (1, .ofNat 0, [(.ofNat 1, 3)])], ([], [])), (.ofNat 14, [(.negSucc 0, 3)]))], [(2, false)], [], [], [(32, [35])], [])
theorem gK36 : cChk 36 gCT gRU gC36 1 gH36 3000 = true := by decide +kernel
noncomputable def gH37 : sHt := ([], [], [], [], [(3, [34]), (12, [36])], [])
theorem gK37 : cChk 37 gCT gRU gC37 0 gH37 3000 = true := by decide +kernel
noncomputable def gH38 : sHt := ([], [], [], [], [], [])
theorem gK38 : cChk 38 gCT gRU gC38 0 gH38 3000 = true := by decide +kernel
noncomputable def gH39 : sHt := ([], [], [], [], [(17, [16]), (34, [26, 29]), (52, [26, 29]), (72, [37]), (83, [16]), (102, [38]), (109, [20])], [])
theorem gK39 : cChk 39 gCT gRU gC39 2 gH39 3000 = true := by decide +kernel
noncomputable def gH40 : sHt := ([], [], [], [], [], [])
theorem gK40 : cChk 40 gCT gRU gC40 1 gH40 3000 = true := by decide +kernel
noncomputable def gH41 : sHt := ([], [], [], [], [], [])
theorem gK41 : cChk 41 gCT gRU gC41 0 gH41 3000 = true := by decide +kernel
noncomputable def gH42 : sHt := ([(2, ((2, [(1, .ofNat 0, .ofNat 12)], [], []), [(18, .ofNat 0, [(.ofNat 1, 0)]), (4, .ofNat 0, []), (0, .ofNat 0, []), (1, .ofNat 0, [(.ofNat 1, 1)])], ([], [])), (.ofNat 12, [(.negSucc 0, 1)]))], [(2, false)], [], [], [], [])
theorem gK42 : cChk 42 gCT gRU gC42 1 gH42 3000 = true := by decide +kernel
noncomputable def gH43 : sHt := ([], [], [], [], [], [])
theorem gK43 : cChk 43 gCT gRU gC43 0 gH43 3000 = true := by decide +kernel
noncomputable def gH44 : sHt := ([], [], [], [], [(10, [20]), (17, [41, 43]), (25, [16, 23]), (36, [42]), (56, [16, 23])], [])
theorem gK44 : cChk 44 gCT gRU gC44 1 gH44 3000 = true := by decide +kernel
noncomputable def gH45 : sHt := ([], [], [], [], [], [])
theorem gK45 : cChk 45 gCT gRU gC45 0 gH45 3000 = true := by decide +kernel
noncomputable def gH46 : sHt := ([], [], [], [], [(17, [16]), (31, [40, 44]), (49, [26, 29]), (67, [26, 29]), (87, [37]), (98, [16]), (119, [45]), (126, [20])], [])
theorem gK46 : cChk 46 gCT gRU gC46 3 gH46 3000 = true := by decide +kernel
end CkChk1
