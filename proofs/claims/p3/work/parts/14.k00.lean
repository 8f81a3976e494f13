section CkChk0
noncomputable def gH0 : sHt := ([], [], [], [], [], [])
theorem gK0 : cChk 0 gCT gRU gC0 1 gH0 3000 = true := by decide +kernel
noncomputable def gH1 : sHt := ([], [], [], [], [(17, [0]), (22, [0]), (27, [0]), (33, [0]), (39, [0])], [])
theorem gK1 : cChk 1 gCT gRU gC1 0 gH1 3000 = true := by decide +kernel
noncomputable def gH2 : sHt := ([], [], [], [], [], [])
theorem gK2 : cChk 2 gCT gRU gC2 0 gH2 3000 = true := by decide +kernel
noncomputable def gH3 : sHt := ([], [], [], [], [], [])
theorem gK3 : cChk 3 gCT gRU gC3 0 gH3 3000 = true := by decide +kernel
noncomputable def gH4 : sHt := ([], [], [], [], [(13, [3])], [])
theorem gK4 : cChk 4 gCT gRU gC4 0 gH4 3000 = true := by decide +kernel
noncomputable def gH5 : sHt := ([(6, ((2, [(1, .ofNat 0, .ofNat 12)], [], []), [(19, .ofNat 0, [(.ofNat 1, 0)]), (4, .ofNat 0, []), (0, .ofNat 0, []), (1, .ofNat 0, [(.ofNat 1, 1)]), (1, .ofNat 12, [])], ([], [])), (.ofNat 12, [(.negSucc 0, 1)]))], [(6, false)], [], [], [], [])
theorem gK5 : cChk 5 gCT gRU gC5 2 gH5 3000 = true := by decide +kernel
noncomputable def gH6 : sHt := ([(5, ((2, [(1, .ofNat 0, .ofNat 100)], [], []), [(20, .ofNat 0, [(.ofNat 1, 0)]), (1, .negSucc 0, []), (1, .ofNat 0, [(.ofNat 1, 1)]), (1, .ofNat 100, [])], ([], [])), (.ofNat 100, [(.negSucc 0, 1)]))], [(5, false)], [], [], [], [])
theorem gK6 : cChk 6 gCT gRU gC6 2 gH6 3000 = true := by decide +kernel
noncomputable def gH7 : sHt := ([(5, ((2, [(1, .ofNat 0, .ofNat 100)], [], []), [(21, .ofNat 0, [(.ofNat 1, 0)]), (1, .negSucc 0, []), (1, .ofNat 0, [(.ofNat 1, 1)]), (1, .ofNat 100, [])], ([], [])), (.ofNat 100, [(.negSucc 0, 1)]))], [(5, false)], [], [], [], [])
theorem gK7 : cChk 7 gCT gRU gC7 2 gH7 3000 = true := by decide +kernel
noncomputable def gH8 : sHt := ([], [], [], [], [(42, [5]), (50, [6]), (58, [7])], [])
theorem gK8 : cChk 8 gCT gRU gC8 0 gH8 3000 = true := by decide +kernel
noncomputable def gH9 : sHt := ([(5, ((2, [(1, .ofNat 0, .ofNat 10)], [], []), [(37, .ofNat 0, [(.ofNat 1, 0)]), (1, .ofNat 0, []), (1, .ofNat 0, [(.ofNat 1, 1)]), (1, .ofNat 10, [])], ([], [])), (.ofNat 10, [(.negSucc 0, 1)]))], [(5, false)], [], [], [], [])
theorem gK9 : cChk 9 gCT gRU gC9 2 gH9 3000 = true := by decide +kernel
noncomputable def gH10 : sHt := ([(5, ((2, [(1, .ofNat 0, .ofNat 10)], [], []), [(38, .ofNat 0, [(.ofNat 1, 0)]), (1, .ofNat 0, []), (1, .ofNat 0, [(.ofNat 1, 1)]), (1, .ofNat 10, [])], ([], [])), (.ofNat 10, [(.negSucc 0, 1)]))], [(5, false)], [], [], [], [])
theorem gK10 : cChk 10 gCT gRU gC10 2 gH10 3000 = true := by decide +kernel
noncomputable def gH11 : sHt := ([(5, ((2, [(1, .ofNat 0, .ofNat 3)], [], []), [(39, .ofNat 0, [(.ofNat 1, 0)]), (1, .negSucc 0, []), (1, .ofNat 0, [(.ofNat 1, 1)]), (1, .ofNat 3, [])], ([], [])), (.ofNat 3, [(.negSucc 0, 1)]))], [(5, false)], [], [], [], [])
theorem gK11 : cChk 11 gCT gRU gC11 2 gH11 3000 = true := by decide +kernel
noncomputable def gH12 : sHt := ([(5, ((2, [(1, .ofNat 0, .ofNat 3)], [], []), [(40, .ofNat 0, [(.ofNat 1, 0)]), (1, .ofNat 0, []), (1, .ofNat 0, [(.ofNat 1, 1)]), (1, .ofNat 3, [])], ([], [])), (.ofNat 3, [(.negSucc 0, 1)]))], [(5, false)], [], [], [], [])
theorem gK12 : cChk 12 gCT gRU gC12 2 gH12 3000 = true := by decide +kernel
noncomputable def gH13 : sHt := ([(5, ((2, [(1, .ofNat 0, .ofNat 4)], [], []), [(41, .ofNat 0, [(.ofNat 1, 0)]), (1, .ofNat 0, []), (1, .ofNat 0, [(.ofNat 1, 1)]), (1, .ofNat 4, [])], ([], [])), (.ofNat 4, [(.negSucc 0, 1)]))], [(5, false)], [], [], [], [])
theorem gK13 : cChk 13 gCT gRU gC13 2 gH13 3000 = true := by decide +kernel
noncomputable def gH14 : sHt := ([(5, ((2, [(1, .ofNat 0, .ofNat 4)], [], []), [(42, .ofNat 0, [(.ofNat 1, 0)]), (1, .ofNat 0, []), (1, .ofNat 0, [(.ofNat 1, 1)]), (1, .ofNat 4, [])], ([], [])), (.ofNat 4, [(.negSucc 0, 1)]))], [(5, false)], [], [], [], [])
theorem gK14 : cChk 14 gCT gRU gC14 2 gH14 3000 = true := by decide +kernel
noncomputable def gH15 : sHt := ([], [], [], [], [(30, [9]), (38, [10]), (46, [11]), (54, [12]), (62, [13]), (70, [14])], [])
theorem gK15 : cChk 15 gCT gRU gC15 0 gH15 3000 = true := by decide +kernel
noncomputable def gH16 : sHt := ([], [], [], [], [], [])
theorem gK16 : cChk 16 gCT gRU gC16 0 gH16 3000 = true := by decide +kernel
noncomputable def gH17 : sHt := ([], [], [], [], [], [])
theorem gK17 : cChk 17 gCT gRU gC17 1 gH17 3000 = true := by decide +kernel
noncomputable def gH18 : sHt := ([(9, ((6, [(0, .ofNat 0, .ofNat 940), (1, .ofNat 0, .ofNat 940), (5, .ofNat 0, .ofNat 940)], [], []), [(56, .ofNat 173, []), (1, .ofNat 0, [(.ofNat 1, 2)]), (1, .ofNat 0, [(.ofNat 1, 3)]), (1, .ofNat 0, [(.ofNat 1, 4)]), (4, .ofNat 0, []), (0, .ofNat 0, []), (0, .ofNat 0, [])], ([((40, .ofNat 173, []), (.ofNat 1, []), 17, .ofNat 1, []), ((40, .ofNat 173, []), (.ofNat 9, []), 1, .ofNat 0, []), ((40, .ofNat 173, []), (.ofNat 2, []), 1, .ofNat 0, [(.ofNat 1, 1)]), ((40, .ofNat 173, []), (.ofNat 4, []), 1, .ofNat 0, [(.ofNat 1, 5)])], [])), (.ofNat 940, [(.negSucc 0, 5)]))], [(9, false)], [], [], [], [])
theorem gK18 : cChk 18 gCT gRU gC18 6 gH18 3000 = true := by decide +kernel
noncomputable def gH19 : sHt := ([(2, ((1, [(0, .ofNat 0, .ofNat 30)], [], []), [(56, .ofNat 173, []), (4, .ofNat 0, []), (0, .ofNat 0, []), (1, .ofNat 0, [(.ofNat 1, 0)])], ([((40, .ofNat 173, []), (.ofNat 1, []), 17, .ofNat 1, []), ((40, .ofNat 173, []), (.ofNat 9, []), 1, .ofNat 0, [])], [])), (.ofNat 30, [(.negSucc 0, 0)]))], [(2, false)], [], [], [], [])
theorem gK19 : cChk 19 gCT gRU gC19 1 gH19 3000 = true := by decide +kernel
noncomputable def gH20 : sHt := ([(0, ((3, [(0, .ofNat 1, .ofNat 940), (1, .ofNat 10, .ofNat 32), (2, .ofNat 1, .ofNat 940)], [(.ofNat 0, [(.ofNat 1, 0), (.negSucc 0, 2)])], []), [(56, .ofNat 173, [])], ([((40, .ofNat 173, []), (.ofNat 4, []), 1, .ofNat 0, [(.ofNat 1, 0)]), ((1, .ofNat 1, []), (.negSucc 0, [(.ofNat 1, 0)]), 1, .ofNat 0, [(.ofNat 1, 1)]), ((40, .ofNat 173, []), (.ofNat 2, []), 1, .ofNat 0, [(.ofNat 1, 2)]), ((40, .ofNat 173, []), (.ofNat 1, []), 17, .ofNat 1, []), ((40, .ofNat 173, []), (.ofNat 9, []), 1, .ofNat 0, [])], [])), (.ofNat 940, [(.negSucc 0, 0)]))], [(0, false)], [], [], [(102, [16]), (120, [17]), (131, [18]), (148, [19]), (166, [16])], [])
theorem gK20 : cChk 20 gCT gRU gC20 0 gH20 3000 = true := by decide +kernel
end CkChk0
