section CkChk10
noncomputable def gH260 : sHt := ([], [], [(0, [[365]]), (118, [[368, 369, 370, 371]])], [], [(17, [259]), (124, [256, 257])], [])
theorem gK260 : cChk 260 gCT gRU gC260 2 gH260 3000 = true := by decide +kernel
noncomputable def gH261 : sHt := ([], [], [(39, [[372]])], [], [], [])
theorem gK261 : cChk 261 gCT gRU gC261 0 gH261 3000 = true := by decide +kernel
noncomputable def gH262 : sHt := ([], [], [(0, [[365]]), (118, [[368, 369, 370, 371]])], [], [(124, [261])], [])
theorem gK262 : cChk 262 gCT gRU gC262 2 gH262 3000 = true := by decide +kernel
noncomputable def gH263 : sHt := ([], [], [(39, [[372, 373, 374]])], [], [], [])
theorem gK263 : cChk 263 gCT gRU gC263 0 gH263 3000 = true := by decide +kernel
noncomputable def gH264 : sHt := ([], [], [(0, [[277], [278], [279, 286, 288, 290, 292, 294, 296, 298], [280], [281]]), (33, [[282, 283, 284, 304, 307, 308]]), (56, [[300, 301, 302, 303, 305, 306]])], [], [(1, [34]), (9, [226]), (35, [27]), (58, [27])], [])
theorem gK264 : cChk 264 gCT gRU gC264 2 gH264 3000 = true := by decide +kernel
noncomputable def gH265 : sHt := ([], [], [(0, [[365]]), (118, [[368, 369, 370, 371]])], [], [(124, [261])], [])
theorem gK265 : cChk 265 gCT gRU gC265 2 gH265 3000 = true := by decide +kernel
noncomputable def gH266 : sHt := ([], [], [(0, [[277], [278], [279, 286, 288, 290, 292, 294, 296, 298], [280], [281]]), (33, [[282, 283, 284, 304, 307, 308]]), (56, [[300, 301, 302]]), (84, [[285, 287, 289, 291, 293, 295, 297, 299]]), (106, [[310, 311, 312, 313, 314, 315]]), (121, [[377, 378, 379, 380, 381, 382, 383, 384]]), (143, [[317, 318, 319, 320, 321, 322, 323, 324, 325, 326, 327, 328, 329, 330, 331, 332, 333, 334, 335, 336, 337, 338, 339, 340, 341, 342, 343, 344, 345, 346, 347, 348, 349, 350, 351, 352, 353, 354, 355, 356, 357, 358, 359, 360, 361, 362, 363, 364]]), (151, [[316]])], [], [(1, [25, 29, 30, 33]), (9, [216, 217, 218, 219]), (35, [20]), (58, [20]), (85, [215]), (94, [221, 228]), (100, [222, 223, 224, 225, 229]), (108, [27]), (122, [215]), (131, [220, 264]), (139, [263]), (148, [249, 254, 258, 260, 262, 265]), (159, [215])], [])
theorem gK266 : cChk 266 gCT gRU gC266 2 gH266 3000 = true := by decide +kernel
noncomputable def gH267 : sHt := ([], [], [], [], [], [])
theorem gK267 : cChk 267 gCT gRU gC267 0 gH267 3000 = true := by decide +kernel
noncomputable def gH268 : sHt := ([], [], [], [], [], [])
theorem gK268 : cChk 268 gCT gRU gC268 0 gH268 3000 = true := by decide +kernel
noncomputable def gH269 : sHt := ([], [], [], [], [], [])
theorem gK269 : cChk 269 gCT gRU gC269 0 gH269 3000 = true := by decide +kernel
noncomputable def gH270 : sHt := ([], [], [(0, [[277], [278], [279, 286, 288, 290, 292, 294, 296, 298], [280], [281]]), (33, [[282, 283, 284, 304, 307, 308]]), (56, [[300, 301, 302, 303, 305, 306]])], [], [(1, [34]), (9, [226]), (35, [27]), (58, [27])], [])
theorem gK270 : cChk 270 gCT gRU gC270 2 gH270 3000 = true := by decide +kernel
noncomputable def gH271 : sHt := ([], [], [], [], [], [])
theorem gK271 : cChk 271 gCT gRU gC271 0 gH271 3000 = true := by decide +kernel
noncomputable def gH272 : sHt := ([(13, ((18, [(0, .ofNat 0, .ofNat 40), (1, .ofNat 0, .ofNat 19), (2, .ofNat 1, .ofNat 1), (3, .ofNat 0, .ofNat 940), (4, .ofNat 0, .ofNat 940), (5, .ofNat 13, .ofNat 29), (6, .ofNat 0, .ofNat 940), (7, .ofNat 0, .ofNat 0), (8, .ofNat 0, .ofNat 2186), (9, .ofNat 0, .ofNat 1), (10, .ofNat 0, .ofNat 19), (11, .ofNat 1, .ofNat 20), (12, .ofNat 1, .ofNat 40), (13, .ofNat 0, .ofNat 3), (14, .negSucc 0, .ofNat 99), (15, .ofNat 0, .ofNat 940), (16, .ofNat 0, .ofNat 940), (17, .ofNat 0, .ofNat 940)], [(.ofNat 1, [(.ofNat 1, 1), (.ofNat 1, 10), (.negSucc 0, 11)])], []), [(48, .ofNat 57, []), (56, .ofNat 173, []), (18, .ofNat 2, []), (1, .ofNat 8, []), (1, .ofNat 0, [(.ofNat 1, 9)]), (1, .ofNat 0, [(.ofNat 1, 10)]), (0, .ofNat 0, [])], ([((32, .ofNat 57, []), (.ofNat 1, []), 1, .ofNat 0, [(.ofNat 1, 11)]), ((32, .ofNat 57, []), (.ofNat 2, []), 1, .ofNat 0, [(.ofNat 1, 12)]), ((40, .ofNat 173, []), (.ofNat 6, []), 1, .ofNat 0, [(.ofNat 1, 13)]), ((40, .ofNat 173, []), (.ofNat 7, []), 1, .ofNat 0, [(.ofNat 1, 14)]), ((40, .ofNat 173, []), (.ofNat 4, []), 1, .ofNat 0, [(.ofNat 1, 15)]), ((40, .ofNat 173, []), (.ofNat 5, []), 1, .ofNat 0, [(.ofNat 1, 16)]), ((40, .ofNat 173, []), (.ofNat 9, []), 1, .ofNat 0, []), ((40, .ofNat 173, []), (.ofNat 1, []), 17, .ofNat 1, []), ((0, .ofNat 0, []), (.ofNat 6, []), 18, .ofNat 2, [])], [(51, []), (199, [(.ofNat 0, [(.ofNat 1, 8)]), (.ofNat 8, [])]), (201, [(.ofNat 0, [(.ofNat 1, 8)])]), (200, [(.ofNat 0, [(.ofNat 1, 8)]), (.ofNat 0, [(.ofNat 1, 8)])]), (2, [(.ofNat 0, [(.ofNat 1, 12)])]), (192, [(.ofNat 0, [(.ofNat 1, 17)]), (.ofNat 6, []), (.ofNat 0, [(.ofNat 1, 11)]), (.ofNat 0, [(.ofNat 1, 8)]), (.ofNat 0, [(.ofNat 1, 13)]), (.ofNat 0, [(.ofNat 1, 16)]), (.ofNat 0, [(.ofNat 1, 15)]), (.ofNat 0, [(.ofNat 1, 14)])])])), (.ofNat 20, [(.negSucc 0, 10)])), (13, ((13, [(0, .ofNat 0, .ofNat 40), (1, .ofNat 0, .ofNat 20), (2, .ofNat 0, .ofNat 3), (3, .ofNat 0, .ofNat 940), (4, .ofNat 0, .ofNat 940), (5, .negSucc 0, .ofNat 99), (6, .ofNat 0, .ofNat 940), (7, .ofNat 0, .ofNat 0), (8, .ofNat 0, .ofNat 2186), (9, .ofNat 0, .ofNat 1), (10, .ofNat 0, .ofNat 20), (11, .ofNat 0, .ofNat 940), (12, .ofNat 1, .ofNat 4)], [], []), [(48, .ofNat 57, []), (56, .ofNat 173, []), (18, .ofNat 2, []), (1, .ofNat 8, []), (1, .ofNat 0, [(.ofNat 1, 9)]), (1, .ofNat 0, [(.ofNat 1, 10)]), (0, .ofNat 0, [])], ([((40, .ofNat 173, []), (.ofNat 10, []), 1, .ofNat 0, [(.ofNat 1, 11)]), ((40, .ofNat 173, []), (.ofNat 9, []), 1, .ofNat 0, [(.ofNat 1, 12)]), ((40, .ofNat 173, []), (.ofNat 1, []), 17, .ofNat 1, []), ((0, .ofNat 0, []), (.ofNat 6, []), 18, .ofNat 2, [])], [(193, [(.ofNat 0, [(.ofNat 1, 12)]), (.ofNat 0, [(.ofNat 1, 11)])])])), (.ofNat 0, []))], [(13, false)], [(0, [[276]]), (13, [[309]]), (27, [[385], [386], [387]]), (82, [[388]]), (86, [[276]])], [], [(4, [266]), (28, [25, 29, 30, 33]), (31, [267, 268, 269, 271]), (38, [30]), (60, [261]), (83, [215]), (90, [266, 270]), (105, [263, 261]), (124, [261, 263])], [])
theorem gK272 : cChk 272 gCT gRU gC272 3 gH272 3000 = true := by decide +kernel
noncomputable def gH273 : sHt := ([], [], [(0, [[92]])], [], [], [])
theorem gK273 : cChk 273 gCT gRU gC273 0 gH273 3000 = true := by decide +kernel
noncomputable def gH274 : sHt := ([], [], [(0, [[92]])], [], [], [])
theorem gK274 : cChk 274 gCT gRU gC274 0 gH274 3000 = true := by decide +kernel
noncomputable def gH275 : sHt := ([], [], [(0, [[92]])], [], [], [])
theorem gK275 : cChk 275 gCT gRU gC275 0 gH275 3000 = true := by decide +kernel
noncomputable def gH276 : sHt := ([], [], [(0, [[92]])], [], [], [])
theorem gK276 : cChk 276 gCT gRU gC276 0 gH276 3000 = true := by decide +kernel
noncomputable def gH277 : sHt := ([], [], [(0, [[277], [278], [279, 286, 288, 290, 292, 294, 296, 298], [280], [281]]), (33, [[282, 283, 284, 304, 307, 308]]), (56, [[300, 301, 302, 303, 305, 306]])], [], [(1, [34]), (9, [226]), (35, [27]), (58, [27])], [])
theorem gK277 : cChk 277 gCT gRU gC277 2 gH277 3000 = true := by decide +kernel
end CkChk10
