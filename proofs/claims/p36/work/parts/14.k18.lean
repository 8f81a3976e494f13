section CkChk18
noncomputable def gH319 : sHt := ([], [], [(0, [[277], [278], [279, 286, 288, 290, 292, 294, 296, 298], [280], [281]]), (33, [[282, 283, 284, 304, 307, 308]]), (56, [[300, 301, 302, 303, 305, 306]])], [], [(1, [34]), (9, [226]), (35, [27]), (58, [27])], [])
theorem gK319 : cChk 319 gCT gRU gC319 2 gH319 3000 = true := by decide +kernel
noncomputable def gH320 : sHt := ([(13, ((3, [(0, .ofNat 0, .ofNat 40), (1, .negSucc 2147483647, .ofNat 2147483647), (2, .ofNat 1, .ofNat 4)], [], []), [(48, .ofNat 57, []), (56, .ofNat 173, []), (18, .ofNat 2, []), (1, .ofNat 1, []), (1, .ofNat 0, []), (1, .ofNat 0, []), (0, .ofNat 0, [])], ([((40, .ofNat 173, []), (.ofNat 1, []), 17, .ofNat 1, []), ((40, .ofNat 173, []), (.ofNat 9, []), 1, .ofNat 0, [(.ofNat 1, 2)]), ((32, .ofNat 57, []), (.ofNat 1, []), 1, .ofNat 0, [(.ofNat 1, 1)]), ((32, .ofNat 57, []), (.ofNat 2, []), 1, .ofNat 0, [(.ofNat 1, 0)])], [])), (.ofNat 0, []))], [(13, false)], [(0, [[276]]), (13, [[309]])], [], [(4, [319])], [])
theorem gK320 : cChk 320 gCT gRU gC320 3 gH320 3000 = true := by decide +kernel
noncomputable def gH321 : sHt := ([], [], [(15, [[274], [275]]), (33, [[389, 390, 391, 392]]), (38, [[393]])], [], [(16, [215]), (23, [318, 320]), (35, [27, 20])], [])
theorem gK321 : cChk 321 gCT gRU gC321 0 gH321 3000 = true := by decide +kernel
noncomputable def gH322 : sHt := ([], [], [(49, [[396], [395]]), (75, [[394], [395]])], [], [(4, [214]), (19, [321])], [])
theorem gK322 : cChk 322 gCT gRU gC322 1 gH322 3000 = true := by decide +kernel
noncomputable def gH323 : sHt := ([], [], [(0, [[277], [278], [279, 286, 288, 290, 292, 294, 296, 298], [280], [281]]), (33, [[282, 283, 284, 304, 307, 308]]), (56, [[300, 301, 302, 303, 305, 306]])], [], [(1, [25, 29, 30, 33]), (9, [216, 217, 218, 219]), (35, [20]), (58, [20])], [])
theorem gK323 : cChk 323 gCT gRU gC323 2 gH323 3000 = true := by decide +kernel
noncomputable def gH324 : sHt := ([(13, ((10, [(0, .ofNat 0, .ofNat 40), (1, .ofNat 0, .ofNat 20), (2, .ofNat 0, .ofNat 3), (3, .ofNat 0, .ofNat 940), (4, .ofNat 0, .ofNat 940), (5, .negSucc 0, .ofNat 99), (6, .ofNat 0, .ofNat 940), (7, .ofNat 0, .ofNat 0), (8, .ofNat 0, .ofNat 6560), (9, .ofNat 1, .ofNat 4)], [], []), [(43, .ofNat 52, []), (56, .ofNat 173, []), (18, .ofNat 2, []), (1, .ofNat 9, []), (1, .ofNat 0, []), (1, .ofNat 0, []), (0, .ofNat 0, [])], ([((40, .ofNat 173, []), (.ofNat 10, []), 1, .ofNat 0, [(.ofNat 1, 3)]), ((40, .ofNat 173, []), (.ofNat 9, []), 1, .ofNat 0, [(.ofNat 1, 9)]), ((40, .ofNat 173, []), (.ofNat 7, []), 1, .ofNat 0, [(.ofNat 1, 5)]), ((40, .ofNat 173, []), (.ofNat 4, []), 1, .ofNat 0, [(.ofNat 1, 4)]), ((40, .ofNat 173, []), (.ofNat 5, []), 1, .ofNat 0, [(.ofNat 1, 3)]), ((40, .ofNat 173, []), (.ofNat 6, []), 1, .ofNat 0, [(.ofNat 1, 2)]), ((40, .ofNat 173, []), (.ofNat 1, []), 17, .ofNat 1, []), ((27, .ofNat 52, []), (.ofNat 1, []), 1, .ofNat 0, [(.ofNat 1, 1)]), ((27, .ofNat 52, []), (.ofNat 2, []), 1, .ofNat 0, [(.ofNat 1, 0)]), ((0, .ofNat 0, []), (.ofNat 6, []), 18, .ofNat 2, [])], [(193, [(.ofNat 0, [(.ofNat 1, 9)]), (.ofNat 0, [(.ofNat 1, 3)])])])), (.ofNat 0, []))], [(13, false)], [(0, [[276]]), (13, [[309]])], [], [(4, [323])], [])
theorem gK324 : cChk 324 gCT gRU gC324 3 gH324 3000 = true := by decide +kernel
noncomputable def gH325 : sHt := ([], [], [(0, [[277], [278], [279, 286, 288, 290, 292, 294, 296, 298], [280], [281]]), (33, [[282, 283, 284, 304, 307, 308]]), (56, [[300, 301, 302, 303, 305, 306]])], [], [(1, [34]), (9, [226]), (35, [27]), (58, [27])], [])
theorem gK325 : cChk 325 gCT gRU gC325 2 gH325 3000 = true := by decide +kernel
noncomputable def gH326 : sHt := ([(13, ((3, [(0, .ofNat 0, .ofNat 40), (1, .negSucc 2147483647, .ofNat 2147483647), (2, .ofNat 1, .ofNat 4)], [], []), [(43, .ofNat 52, []), (56, .ofNat 173, []), (18, .ofNat 2, []), (1, .ofNat 9, []), (1, .ofNat 0, []), (1, .ofNat 0, []), (0, .ofNat 0, [])], ([((40, .ofNat 173, []), (.ofNat 1, []), 17, .ofNat 1, []), ((40, .ofNat 173, []), (.ofNat 9, []), 1, .ofNat 0, [(.ofNat 1, 2)]), ((27, .ofNat 52, []), (.ofNat 1, []), 1, .ofNat 0, [(.ofNat 1, 1)]), ((27, .ofNat 52, []), (.ofNat 2, []), 1, .ofNat 0, [(.ofNat 1, 0)])], [])), (.ofNat 0, []))], [(13, false)], [(0, [[276]]), (13, [[309]])], [], [(4, [325])], [])
theorem gK326 : cChk 326 gCT gRU gC326 3 gH326 3000 = true := by decide +kernel
noncomputable def gH327 : sHt := ([], [], [(39, [[398, 399, 400]])], [], [], [])
theorem gK327 : cChk 327 gCT gRU gC327 0 gH327 3000 = true := by decide +kernel
noncomputable def gH328 : sHt := ([], [], [(39, [[398, 399]])], [], [], [])
theorem gK328 : cChk 328 gCT gRU gC328 0 gH328 3000 = true := by decide +kernel
noncomputable def gH329 : sHt := ([], [], [(0, [[365]]), (104, [[366, 375, 376]]), (109, [[367]]), (118, [[368, 369, 370, 371]])], [], [(68, [215]), (80, [230, 235, 238, 241, 246]), (89, [231, 236, 239, 242, 247]), (98, [232, 237, 240, 243, 248]), (106, [20, 27]), (113, [233, 244]), (124, [327, 328])], [])
theorem gK329 : cChk 329 gCT gRU gC329 2 gH329 3000 = true := by decide +kernel
noncomputable def gH330 : sHt := ([], [], [(39, [[398, 399, 400]])], [], [], [])
theorem gK330 : cChk 330 gCT gRU gC330 0 gH330 3000 = true := by decide +kernel
noncomputable def gH331 : sHt := ([], [], [(39, [[398, 399, 400]])], [], [], [])
theorem gK331 : cChk 331 gCT gRU gC331 0 gH331 3000 = true := by decide +kernel
noncomputable def gH332 : sHt := ([], [], [(0, [[365]]), (118, [[368, 369, 370, 371]])], [], [(53, [251]), (124, [330, 331])], [])
theorem gK332 : cChk 332 gCT gRU gC332 2 gH332 3000 = true := by decide +kernel
noncomputable def gH333 : sHt := ([], [], [(39, [[398]])], [], [], [])
theorem gK333 : cChk 333 gCT gRU gC333 0 gH333 3000 = true := by decide +kernel
noncomputable def gH334 : sHt := ([], [], [(39, [[398, 399, 400]])], [], [], [])
theorem gK334 : cChk 334 gCT gRU gC334 0 gH334 3000 = true := by decide +kernel
noncomputable def gH335 : sHt := ([], [], [(0, [[365]]), (118, [[368, 369, 370, 371]])], [], [(35, [255]), (124, [333, 334])], [])
theorem gK335 : cChk 335 gCT gRU gC335 2 gH335 3000 = true := by decide +kernel
noncomputable def gH336 : sHt := ([], [], [(0, [[365]]), (118, [[368, 369, 370, 371]])], [], [(17, [259]), (124, [333, 334])], [])
theorem gK336 : cChk 336 gCT gRU gC336 2 gH336 3000 = true := by decide +kernel
noncomputable def gH337 : sHt := ([], [], [(39, [[398]])], [], [], [])
theorem gK337 : cChk 337 gCT gRU gC337 0 gH337 3000 = true := by decide +kernel
noncomputable def gH338 : sHt := ([], [], [(0, [[365]]), (118, [[368, 369, 370, 371]])], [], [(124, [337])], [])
theorem gK338 : cChk 338 gCT gRU gC338 2 gH338 3000 = true := by decide +kernel
noncomputable def gH339 : sHt := ([], [], [(39, [[398, 399, 400]])], [], [], [])
theorem gK339 : cChk 339 gCT gRU gC339 0 gH339 3000 = true := by decide +kernel
noncomputable def gH340 : sHt := ([], [], [(0, [[277], [278], [279, 286, 288, 290, 292, 294, 296, 298], [280], [281]]), (33, [[282, 283, 284, 304, 307, 308]]), (56, [[300, 301, 302, 303, 305, 306]])], [], [(1, [34]), (9, [226]), (35, [27]), (58, [27])], [])
theorem gK340 : cChk 340 gCT gRU gC340 2 gH340 3000 = true := by decide +kernel
end CkChk18
