section CkChk0
noncomputable def gH0 : sHt := ([], [], [(43, [[1, 2, 3, 4]])], [], [(27, [0]), (31, [0])], [])
theorem gK0 : cChk 0 gCT gRU gC0 1 gH0 3000 = true := by decide +kernel
noncomputable def gH1 : sHt := ([], [], [(43, [[1, 2, 3, 4]])], [], [(27, [0]), (31, [0])], [])
theorem gK1 : cChk 1 gCT gRU gC1 1 gH1 3000 = true := by decide +kernel
noncomputable def gH2 : sHt := ([], [], [(43, [[1, 2, 3, 4]])], [], [(27, [0]), (31, [0])], [])
theorem gK2 : cChk 2 gCT gRU gC2 1 gH2 3000 = true := by decide +kernel
noncomputable def gH3 : sHt := ([], [], [(43, [[1, 2, 3, 4]])], [], [(27, [0]), (31, [0])], [])
theorem gK3 : cChk 3 gCT gRU gC3 1 gH3 3000 = true := by decide +kernel
noncomputable def gH4 : sHt := ([], [], [(43, [[1, 2, 3, 4]])], [], [(27, [0]), (31, [0])], [])
theorem gK4 : cChk 4 gCT gRU gC4 1 gH4 3000 = true := by decide +kernel
noncomputable def gH5 : sHt := ([], [], [(0, [[0]]), (20, [[5]]), (25, [[6]]), (30, [[7]]), (36, [[8]]), (42, [[9], [10]])], [], [(17, [0]), (22, [1]), (27, [2]), (33, [3]), (39, [4])], [])
theorem gK5 : cChk 5 gCT gRU gC5 0 gH5 3000 = true := by decide +kernel
noncomputable def gH6 : sHt := ([], [], [], [], [], [])
theorem gK6 : cChk 6 gCT gRU gC6 0 gH6 3000 = true := by decide +kernel
noncomputable def gH7 : sHt := ([], [], [], [], [], [])
theorem gK7 : cChk 7 gCT gRU gC7 0 gH7 3000 = true := by decide +kernel
noncomputable def gH8 : sHt := ([], [], [], [], [(13, [7])], [])
theorem gK8 : cChk 8 gCT gRU gC8 0 gH8 3000 = true := by decide +kernel
noncomputable def gH9 : sHt := ([(6, ((1, [(0, .ofNat 0, .ofNat 12)], [], []), [(115, .ofNat 16, []), (5, .ofNat 0, []), (0, .ofNat 0, []), (1, .ofNat 0, [(.ofNat 1, 0)]), (1, .ofNat 12, [])], ([((98, .ofNat 15, []), (.ofNat 7, []), 115, .ofNat 16, []), ((43, .ofNat 176, []), (.ofNat 1, []), 114, .ofNat 15, [])], [(100, []), (101, [(.ofNat 0, [(.ofNat 1, 0)])])])), (.ofNat 12, [(.negSucc 0, 0)]))], [(6, false)], [(0, [[12]]), (16, [[13]]), (22, [[14]])], [], [], [])
theorem gK9 : cChk 9 gCT gRU gC9 2 gH9 3000 = true := by decide +kernel
noncomputable def gH10 : sHt := ([(5, ((2, [(1, .ofNat 0, .ofNat 100)], [], []), [(20, .ofNat 0, [(.ofNat 1, 0)]), (1, .negSucc 0, []), (1, .ofNat 0, [(.ofNat 1, 1)]), (1, .ofNat 100, [])], ([((98, .ofNat 15, []), (.ofNat 8, []), 20, .ofNat 0, [(.ofNat 1, 0)]), ((43, .ofNat 176, []), (.ofNat 1, []), 114, .ofNat 15, [])], [(100, []), (103, [(.ofNat 0, [(.ofNat 1, 1)])])])), (.ofNat 100, [(.negSucc 0, 1)]))], [(5, false)], [(0, [[15]]), (14, [[16]]), (20, [[17]])], [], [], [])
theorem gK10 : cChk 10 gCT gRU gC10 2 gH10 3000 = true := by decide +kernel
noncomputable def gH11 : sHt := ([(5, ((2, [(1, .ofNat 0, .ofNat 100)], [], []), [(21, .ofNat 0, [(.ofNat 1, 0)]), (1, .negSucc 0, []), (1, .ofNat 0, [(.ofNat 1, 1)]), (1, .ofNat 100, [])], ([((98, .ofNat 15, []), (.ofNat 9, []), 21, .ofNat 0, [(.ofNat 1, 0)]), ((43, .ofNat 176, []), (.ofNat 1, []), 114, .ofNat 15, [])], [(100, []), (105, [(.ofNat 0, [(.ofNat 1, 1)])])])), (.ofNat 100, [(.negSucc 0, 1)]))], [(5, false)], [(0, [[18]]), (14, [[19]]), (20, [[20]])], [], [], [])
theorem gK11 : cChk 11 gCT gRU gC11 2 gH11 3000 = true := by decide +kernel
noncomputable def gH12 : sHt := ([], [], [], [], [(42, [9]), (50, [10]), (58, [11])], [])
theorem gK12 : cChk 12 gCT gRU gC12 0 gH12 3000 = true := by decide +kernel
noncomputable def gH13 : sHt := ([(5, ((3, [(2, .ofNat 0, .ofNat 10)], [], []), [(37, .ofNat 0, [(.ofNat 1, 0)]), (1, .ofNat 0, []), (1, .ofNat 0, [(.ofNat 1, 2)]), (1, .ofNat 10, [])], ([((15, .ofNat 0, [(.ofNat 1, 1)]), (.ofNat 10, []), 37, .ofNat 0, [(.ofNat 1, 0)]), ((43, .ofNat 176, []), (.ofNat 2, []), 31, .ofNat 0, [(.ofNat 1, 1)])], [(100, []), (107, [(.ofNat 0, [(.ofNat 1, 2)])])])), (.ofNat 10, [(.negSucc 0, 2)]))], [(5, false)], [(0, [[21]]), (14, [[22]]), (20, [[23]])], [], [], [])
theorem gK13 : cChk 13 gCT gRU gC13 2 gH13 3000 = true := by decide +kernel
noncomputable def gH14 : sHt := ([(5, ((2, [(1, .ofNat 0, .ofNat 10)], [], []), [(38, .ofNat 0, [(.ofNat 1, 0)]), (1, .ofNat 0, []), (1, .ofNat 0, [(.ofNat 1, 1)]), (1, .ofNat 10, [])], ([], [(100, [])])), (.ofNat 10, [(.negSucc 0, 1)]))], [(5, false)], [], [], [], [])
theorem gK14 : cChk 14 gCT gRU gC14 2 gH14 3000 = true := by decide +kernel
noncomputable def gH15 : sHt := ([(5, ((2, [(1, .ofNat 0, .ofNat 3)], [], []), [(39, .ofNat 0, [(.ofNat 1, 0)]), (1, .negSucc 0, []), (1, .ofNat 0, [(.ofNat 1, 1)]), (1, .ofNat 3, [])], ([], [(100, [])])), (.ofNat 3, [(.negSucc 0, 1)]))], [(5, false)], [], [], [], [])
theorem gK15 : cChk 15 gCT gRU gC15 2 gH15 3000 = true := by decide +kernel
noncomputable def gH16 : sHt := ([(5, ((2, [(1, .ofNat 0, .ofNat 3)], [], []), [(40, .ofNat 0, [(.ofNat 1, 0)]), (1, .ofNat 0, []), (1, .ofNat 0, [(.ofNat 1, 1)]), (1, .ofNat 3, [])], ([], [(100, [])])), (.ofNat 3, [(.negSucc 0, 1)]))], [(5, false)], [], [], [], [])
theorem gK16 : cChk 16 gCT gRU gC16 2 gH16 3000 = true := by decide +kernel
noncomputable def gH17 : sHt := ([(5, ((2, [(1, .ofNat 0, .ofNat 4)], [], []), [(41, .ofNat 0, [(.ofNat 1, 0)]), (1, .ofNat 0, []), (1, .ofNat 0, [(.ofNat 1, 1)]), (1, .ofNat 4, [])], ([], [(100, [])])), (.ofNat 4, [(.negSucc 0, 1)]))], [(5, false)], [], [], [], [])
theorem gK17 : cChk 17 gCT gRU gC17 2 gH17 3000 = true := by decide +kernel
noncomputable def gH18 : sHt := ([(5, ((2, [(1, .ofNat 0, .ofNat 4)], [], []), [(42, .ofNat 0, [(.ofNat 1, 0)]), (1, .ofNat 0, []), (1, .ofNat 0, [(.ofNat 1, 1)]), (1, .ofNat 4, [])], ([], [(100, [])])), (.ofNat 4, [(.negSucc 0, 1)]))], [(5, false)], [], [], [], [])
theorem gK18 : cChk 18 gCT gRU gC18 2 gH18 3000 = true := by decide +kernel
noncomputable def gH19 : sHt := ([], [], [], [], [(30, [13]), (38, [14]), (46, [15]), (54, [16]), (62, [17]), (70, [18])], [])
theorem gK19 : cChk 19 gCT gRU gC19 0 gH19 3000 = true := by decide +kernel
noncomputable def gH20 : sHt := ([], [], [], [], [], [])
theorem gK20 : cChk 20 gCT gRU gC20 0 gH20 3000 = true := by decide +kernel
noncomputable def gH21 : sHt := ([], [], [(10, [[41]]), (46, [[46, 47]]), (66, [[42, 43, 44, 45]])], [], [], [])
theorem gK21 : cChk 21 gCT gRU gC21 1 gH21 3000 = true := by decide +kernel
noncomputable def gH22 : sHt := ([(9, ((8, [(0, .ofNat 0, .ofNat 940), (1, .ofNat 0, .ofNat 940), (2, .ofNat 0, .ofNat 940), (3, .ofNat 0, .ofNat 941), (4, .ofNat 0, .ofNat 941), (5, .negSucc 2147483647, .ofNat 2147483647), (7, .ofNat 0, .ofNat 940)], [], []), [(56, .ofNat 173, []), (1, .ofNat 0, [(.ofNat 1, 3)]), (1, .ofNat 0, [(.ofNat 1, 4)]), (1, .ofNat 0, [(.ofNat 1, 5)]), (5, .ofNat 0, [(.ofNat 1, 6)]), (0, .ofNat 0, []), (0, .ofNat 0, [])], ([((40, .ofNat 173, []), (.ofNat 7, []), 1, .negSucc 0, []), ((40, .ofNat 173, []), (.ofNat 6, []), 1, .ofNat 0, []), ((40, .ofNat 173, []), (.ofNat 1, []), 17, .ofNat 1, []), ((40, .ofNat 173, []), (.ofNat 9, []), 1, .ofNat 0, []), ((40, .ofNat 173, []), (.ofNat 2, []), 1, .ofNat 0, [(.ofNat 1, 1)]), ((40, .ofNat 173, []), (.ofNat 4, []), 1, .ofNat 0, [(.ofNat 1, 7)])], [(42, [(.ofNat 0, [(.ofNat 1, 2)]), (.ofNat 0, [(.ofNat 1, 0)])]), (43, [(.ofNat 0, [(.ofNat 1, 0)])]), (44, [(.ofNat 0, [(.ofNat 1, 0)]), (.ofNat 0, [(.ofNat 1, 7)]), (.ofNat 0, [(.ofNat 1, 3)]), (.ofNat 0, [(.ofNat 1, 4)]), (.ofNat 0, [(.ofNat 1, 5)]), (.ofNat 0, [(.ofNat 1, 6)])])])), (.ofNat 940, [(.negSucc 0, 7)]))], [(9, false)], [(7, [[48]]), (9, [[49]]), (31, [[50]]), (45, [[58], [59], [60]]), (82, [[62], [63], [64]]), (96, [[61, 65, 66, 67, 75, 76]]), (109, [[51, 52, 53, 68]]), (124, [[69]]), (135, [[70]]), (152, [[71], [72]]), (162, [[54, 55, 56, 57, 73, 74]])], [], [], [])
theorem gK22 : cChk 22 gCT gRU gC22 6 gH22 3000 = true := by decide +kernel
noncomputable def gH23 : sHt := ([(2, ((2, [(1, .ofNat 0, .ofNat 30)], [], []), [(56, .ofNat 173, []), (5, .ofNat 0, [(.ofNat 1, 0)]), (0, .ofNat 0, []), (1, .ofNat 0, [(.ofNat 1, 1)])], ([((40, .ofNat 173, []), (.ofNat 1, []), 17, .ofNat 1, []), ((40, .ofNat 173, []), (.ofNat 9, []), 1, .ofNat 0, [])], [(51, []), (49, [(.ofNat 0, [(.ofNat 1, 1)]), (.ofNat 0, [(.ofNat 1, 0)])])])), (.ofNat 30, [(.negSucc 0, 1)]))], [(2, false)], [(0, [[77]]), (19, [[79]]), (21, [[78, 80]]), (27, [[81]])], [], [], [])
theorem gK23 : cChk 23 gCT gRU gC23 1 gH23 3000 = true := by decide +kernel
noncomputable def gH24 : sHt := ([(0, ((13, [(0, .ofNat 0, .ofNat 939), (1, .ofNat 1, .ofNat 940), (2, .ofNat 0, .ofNat 940), (3, .ofNat 0, .ofNat 26), (4, .ofNat 0, .ofNat 2000), (5, .negSucc 0, .ofNat 99), (6, .negSucc 0, .ofNat 99), (7, .negSucc 0, .ofNat 99), (8, .negSucc 0, .ofNat 99), (9, .ofNat 0, .ofNat 940), (10, .ofNat 0, .ofNat 940), (11, .ofNat 1, .ofNat 940), (12, .ofNat 10, .ofNat 32)], [(.ofNat 1, [(.ofNat 1, 0), (.negSucc 0, 1)])], []), [(56, .ofNat 173, [])], ([((40, .ofNat 173, []), (.ofNat 4, []), 1, .ofNat 0, [(.ofNat 1, 11)]), ((1, .ofNat 1, []), (.ofNat 0, [(.ofNat 1, 0)]), 1, .ofNat 0, [(.ofNat 1, 12)]), ((40, .ofNat 173, []), (.ofNat 1, []), 17, .ofNat 1, []), ((40, .ofNat 173, []), (.ofNat 9, []), 1, .ofNat 0, []), ((40, .ofNat 173, []), (.ofNat 3, []), 1, .ofNat 0, [(.ofNat 1, 2)]), ((40, .ofNat 173, []), (.ofNat 2, []), 1, .ofNat 0, [(.ofNat 1, 1)])], [(51, []), (52, [(.ofNat 0, [(.ofNat 1, 0)]), (.ofNat 0, [(.ofNat 1, 3)]), (.ofNat 0, [(.ofNat 1, 4)]), (.ofNat 0, [(.ofNat 1, 5)]), (.ofNat 0, [(.ofNat 1, 6)]), (.ofNat 0, [(.ofNat 1, 7)]), (.ofNat 0, [(.ofNat 1, 8)]), (.ofNat 0, [(.ofNat 1, 9)]), (.ofNat 0, [(.ofNat 1, 10)])]), (40, [(.ofNat 0, [(.ofNat 1, 0)]), (.ofNat 0, [(.ofNat 1, 11)])])])), (.ofNat 940, [(.negSucc 0, 11)]))], [(0, false)], [(0, [[25, 26]]), (11, [[27]]), (39, [[83, 84]]), (52, [[28, 29, 30, 85]]), (92, [[31]]), (100, [[32], [33], [34]]), (119, [[39, 40]]), (154, [[82]]), (164, [[32], [33], [34]]), (169, [[35, 86], [36], [37], [38]])], [], [(102, [20]), (120, [21]), (131, [22]), (148, [23]), (166, [20])], [])
theorem gK24 : cChk 24 gCT gRU gC24 0 gH24 3000 = true := by decide +kernel
end CkChk0
