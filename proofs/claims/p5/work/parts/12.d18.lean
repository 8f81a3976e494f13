section CkChk18
noncomputable def gH320 : sHt := ([], [], [(0, [[329], [330], [331, 338, 340, 342, 344, 346, 348, 350], [332], [333]]), (33, [[334, 335, 336, 356, 359, 360]]), (56, [[352, 353, 354, 355, 357, 358]])], [], [(1, [34]), (9, [229]), (35, [27]), (58, [27])], [])
theorem gK320 : cChk 320 gCT gRU gC320 2 gH320 3000 = true := by decide +kernel
noncomputable def gH321 : sHt := ([(13, ((3, [(0, .ofNat 0, .ofNat 40), (1, .negSucc 2147483647, .ofNat 2147483647), (2, .ofNat 1, .ofNat 4)], [], []), [(48, .ofNat 57, []), (56, .ofNat 173, []), (18, .ofNat 2, []), (1, .ofNat 1, []), (1, .ofNat 0, []), (1, .ofNat 0, []), (0, .ofNat 0, [])], ([((40, .ofNat 173, []), (.ofNat 1, []), 17, .ofNat 1, []), ((40, .ofNat 173, []), (.ofNat 9, []), 1, .ofNat 0, [(.ofNat 1, 2)]), ((32, .ofNat 57, []), (.ofNat 1, []), 1, .ofNat 0, [(.ofNat 1, 1)]), ((32, .ofNat 57, []), (.ofNat 2, []), 1, .ofNat 0, [(.ofNat 1, 0)])], [])), (.ofNat 0, []))], [(13, false)], [(0, [[328]]), (13, [[361]])], [], [(4, [320])], [])
theorem gK321 : cChk 321 gCT gRU gC321 3 gH321 3000 = true := by decide +kernel
noncomputable def gH322 : sHt := ([], [], [(15, [[326], [327]]), (33, [[441, 442, 443, 444]]), (38, [[445]])], [], [(16, [218]), (23, [319, 321]), (35, [27, 20])], [])
theorem gK322 : cChk 322 gCT gRU gC322 0 gH322 3000 = true := by decide +kernel
noncomputable def gH323 : sHt := ([], [], [(49, [[448], [447]]), (75, [[446], [447]])], [], [(4, [217]), (19, [322])], [])
theorem gK323 : cChk 323 gCT gRU gC323 1 gH323 3000 = true := by decide +kernel
noncomputable def gH324 : sHt := ([], [], [(0, [[329], [330], [331, 338, 340, 342, 344, 346, 348, 350], [332], [333]]), (33, [[334, 335, 336, 356, 359, 360]]), (56, [[352, 353, 354, 355, 357, 358]])], [], [(1, [25, 29, 30, 33]), (9, [219, 220, 221, 222]), (35, [20]), (58, [20])], [])
theorem gK324 : cChk 324 gCT gRU gC324 2 gH324 3000 = true := by decide +kernel
noncomputable def gH325 : sHt := ([(13, ((10, [(0, .ofNat 0, .ofNat 40), (1, .ofNat 0, .ofNat 20), (2, .ofNat 0, .ofNat 3), (3, .ofNat 0, .ofNat 940), (4, .ofNat 0, .ofNat 940), (5, .negSucc 0, .ofNat 99), (6, .ofNat 0, .ofNat 940), (7, .ofNat 0, .ofNat 0), (8, .ofNat 0, .ofNat 6560), (9, .ofNat 1, .ofNat 4)], [], []), [(43, .ofNat 52, []), (56, .ofNat 173, []), (18, .ofNat 2, []), (1, .ofNat 9, []), (1, .ofNat 0, []), (1, .ofNat 0, []), (0, .ofNat 0, [])], ([((40, .ofNat 173, []), (.ofNat 10, []), 1, .ofNat 0, [(.ofNat 1, 3)]), ((40, .ofNat 173, []), (.ofNat 9, []), 1, .ofNat 0, [(.ofNat 1, 9)]), ((40, .ofNat 173, []), (.ofNat 7, []), 1, .ofNat 0, [(.ofNat 1, 5)]), ((40, .ofNat 173, []), (.ofNat 4, []), 1, .ofNat 0, [(.ofNat 1, 4)]), ((40, .ofNat 173, []), (.ofNat 5, []), 1, .ofNat 0, [(.ofNat 1, 3)]), ((40, .ofNat 173, []), (.ofNat 6, []), 1, .ofNat 0, [(.ofNat 1, 2)]), ((40, .ofNat 173, []), (.ofNat 1, []), 17, .ofNat 1, []), ((27, .ofNat 52, []), (.ofNat 1, []), 1, .ofNat 0, [(.ofNat 1, 1)]), ((27, .ofNat 52, []), (.ofNat 2, []), 1, .ofNat 0, [(.ofNat 1, 0)]), ((0, .ofNat 0, []), (.ofNat 6, []), 18, .ofNat 2, [])], [(193, [(.ofNat 0, [(.ofNat 1, 9)]), (.ofNat 0, [(.ofNat 1, 3)])])])), (.ofNat 0, []))], [(13, false)], [(0, [[328]]), (13, [[361]])], [], [(4, [324])], [])
theorem gK325 : cChk 325 gCT gRU gC325 3 gH325 3000 = true := by decide +kernel
noncomputable def gH326 : sHt := ([], [], [(0, [[329], [330], [331, 338, 340, 342, 344, 346, 348, 350], [332], [333]]), (33, [[334, 335, 336, 356, 359, 360]]), (56, [[352, 353, 354, 355, 357, 358]])], [], [(1, [34]), (9, [229]), (35, [27]), (58, [27])], [])
theorem gK326 : cChk 326 gCT gRU gC326 2 gH326 3000 = true := by decide +kernel
noncomputable def gH327 : sHt := ([(13, ((3, [(0, .ofNat 0, .ofNat 40), (1, .negSucc 2147483647, .ofNat 2147483647), (2, .ofNat 1, .ofNat 4)], [], []), [(43, .ofNat 52, []), (56, .ofNat 173, []), (18, .ofNat 2, []), (1, .ofNat 9, []), (1, .ofNat 0, []), (1, .ofNat 0, []), (0, .ofNat 0, [])], ([((40, .ofNat 173, []), (.ofNat 1, []), 17, .ofNat 1, []), ((40, .ofNat 173, []), (.ofNat 9, []), 1, .ofNat 0, [(.ofNat 1, 2)]), ((27, .ofNat 52, []), (.ofNat 1, []), 1, .ofNat 0, [(.ofNat 1, 1)]), ((27, .ofNat 52, []), (.ofNat 2, []), 1, .ofNat 0, [(.ofNat 1, 0)])], [])), (.ofNat 0, []))], [(13, false)], [(0, [[328]]), (13, [[361]])], [], [(4, [326])], [])
theorem gK327 : cChk 327 gCT gRU gC327 3 gH327 3000 = true := by decide +kernel
noncomputable def gH328 : sHt := ([], [], [(39, [[450, 451, 452]])], [], [], [])
theorem gK328 : cChk 328 gCT gRU gC328 0 gH328 3000 = true := by decide +kernel
noncomputable def gH329 : sHt := ([], [], [(39, [[450, 451]])], [], [], [])
theorem gK329 : cChk 329 gCT gRU gC329 0 gH329 3000 = true := by decide +kernel
noncomputable def gH330 : sHt := ([], [], [(0, [[417]]), (104, [[418, 427, 428]]), (109, [[419]]), (118, [[420, 421, 422, 423]])], [], [(68, [218]), (80, [233, 237, 240, 243, 248]), (89, [234, 238, 241, 244, 249]), (98, [235, 239, 242, 245, 250]), (106, [20, 27]), (113, [204, 246]), (124, [328, 329])], [])
theorem gK330 : cChk 330 gCT gRU gC330 2 gH330 3000 = true := by decide +kernel
noncomputable def gH331 : sHt := ([], [], [(39, [[450, 451, 452]])], [], [], [])
theorem gK331 : cChk 331 gCT gRU gC331 0 gH331 3000 = true := by decide +kernel
noncomputable def gH332 : sHt := ([], [], [(39, [[450, 451, 452]])], [], [], [])
theorem gK332 : cChk 332 gCT gRU gC332 0 gH332 3000 = true := by decide +kernel
noncomputable def gH333 : sHt := ([], [], [(0, [[417]]), (118, [[420, 421, 422, 423]])], [], [(53, [252]), (124, [331, 332])], [])
theorem gK333 : cChk 333 gCT gRU gC333 2 gH333 3000 = true := by decide +kernel
noncomputable def gH334 : sHt := ([], [], [(39, [[450]])], [], [], [])
theorem gK334 : cChk 334 gCT gRU gC334 0 gH334 3000 = true := by decide +kernel
noncomputable def gH335 : sHt := ([], [], [(39, [[450, 451, 452]])], [], [], [])
theorem gK335 : cChk 335 gCT gRU gC335 0 gH335 3000 = true := by decide +kernel
noncomputable def gH336 : sHt := ([], [], [(0, [[417]]), (118, [[420, 421, 422, 423]])], [], [(35, [256]), (124, [334, 335])], [])
theorem gK336 : cChk 336 gCT gRU gC336 2 gH336 3000 = true := by decide +kernel
noncomputable def gH337 : sHt := ([], [], [(0, [[417]]), (118, [[420, 421, 422, 423]])], [], [(17, [260]), (124, [334, 335])], [])
theorem gK337 : cChk 337 gCT gRU gC337 2 gH337 3000 = true := by decide +kernel
noncomputable def gH338 : sHt := ([], [], [(39, [[450]])], [], [], [])
theorem gK338 : cChk 338 gCT gRU gC338 0 gH338 3000 = true := by decide +kernel
noncomputable def gH339 : sHt := ([], [], [(0, [[417]]), (118, [[420, 421, 422, 423]])], [], [(124, [338])], [])
theorem gK339 : cChk 339 gCT gRU gC339 2 gH339 3000 = true := by decide +kernel
noncomputable def gH340 : sHt := ([], [], [(39, [[450, 451, 452]])], [], [], [])
theorem gK340 : cChk 340 gCT gRU gC340 0 gH340 3000 = true := by decide +kernel
noncomputable def gH341 : sHt := ([], [], [(0, [[329], [330], [331, 338, 340, 342, 344, 346, 348, 350], [332], [333]]), (33, [[334, 335, 336, 356, 359, 360]]), (56, [[352, 353, 354, 355, 357, 358]])], [], [(1, [34]), (9, [229]), (35, [27]), (58, [27])], [])
theorem gK341 : cChk 341 gCT gRU gC341 2 gH341 3000 = true := by decide +kernel
end CkChk18
