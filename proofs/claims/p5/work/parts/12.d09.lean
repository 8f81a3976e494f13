section CkChk9
noncomputable def gH224 : sHt := ([(13, ((10, [(0, .ofNat 0, .ofNat 40), (1, .ofNat 0, .ofNat 20), (2, .ofNat 0, .ofNat 3), (3, .ofNat 0, .ofNat 940), (4, .ofNat 0, .ofNat 940), (5, .negSucc 0, .ofNat 99), (6, .ofNat 0, .ofNat 940), (7, .ofNat 0, .ofNat 0), (8, .ofNat 0, .ofNat 6560), (9, .ofNat 1, .ofNat 4)], [], []), [(48, .ofNat 57, []), (56, .ofNat 173, []), (18, .ofNat 2, []), (1, .ofNat 9, []), (1, .ofNat 0, []), (1, .ofNat 0, []), (0, .ofNat 0, [])], ([((40, .ofNat 173, []), (.ofNat 10, []), 1, .ofNat 0, [(.ofNat 1, 3)]), ((40, .ofNat 173, []), (.ofNat 9, []), 1, .ofNat 0, [(.ofNat 1, 9)]), ((40, .ofNat 173, []), (.ofNat 7, []), 1, .ofNat 0, [(.ofNat 1, 5)]), ((40, .ofNat 173, []), (.ofNat 4, []), 1, .ofNat 0, [(.ofNat 1, 4)]), ((40, .ofNat 173, []), (.ofNat 5, []), 1, .ofNat 0, [(.ofNat 1, 3)]), ((40, .ofNat 173, []), (.ofNat 6, []), 1, .ofNat 0, [(.ofNat 1, 2)]), ((40, .ofNat 173, []), (.ofNat 1, []), 17, .ofNat 1, []), ((32, .ofNat 57, []), (.ofNat 1, []), 1, .ofNat 0, [(.ofNat 1, 1)]), ((32, .ofNat 57, []), (.ofNat 2, []), 1, .ofNat 0, [(.ofNat 1, 0)]), ((0, .ofNat 0, []), (.ofNat 6, []), 18, .ofNat 2, [])], [(193, [(.ofNat 0, [(.ofNat 1, 9)]), (.ofNat 0, [(.ofNat 1, 3)])])])), (.ofNat 0, []))], [(13, false)], [(0, [[328]]), (13, [[361]])], [], [(4, [223])], [])
theorem gK224 : cChk 224 gCT gRU gC224 3 gH224 3000 = true := by decide +kernel
noncomputable def gH225 : sHt := ([], [], [(0, [[95]])], [], [], [])
theorem gK225 : cChk 225 gCT gRU gC225 0 gH225 3000 = true := by decide +kernel
noncomputable def gH226 : sHt := ([], [], [(0, [[95]])], [], [], [])
theorem gK226 : cChk 226 gCT gRU gC226 0 gH226 3000 = true := by decide +kernel
noncomputable def gH227 : sHt := ([], [], [(0, [[95]])], [], [], [])
theorem gK227 : cChk 227 gCT gRU gC227 0 gH227 3000 = true := by decide +kernel
noncomputable def gH228 : sHt := ([], [], [(0, [[95]])], [], [], [])
theorem gK228 : cChk 228 gCT gRU gC228 0 gH228 3000 = true := by decide +kernel
noncomputable def gH229 : sHt := ([], [], [(0, [[95]])], [], [], [])
theorem gK229 : cChk 229 gCT gRU gC229 0 gH229 3000 = true := by decide +kernel
noncomputable def gH230 : sHt := ([], [], [(0, [[329], [330], [331, 338, 340, 342, 344, 346, 348, 350], [332], [333]]), (33, [[334, 335, 336, 356, 359, 360]]), (56, [[352, 353, 354, 355, 357, 358]])], [], [(1, [34]), (9, [229]), (35, [27]), (58, [27])], [])
theorem gK230 : cChk 230 gCT gRU gC230 2 gH230 3000 = true := by decide +kernel
noncomputable def gH231 : sHt := ([(13, ((3, [(0, .ofNat 0, .ofNat 40), (1, .negSucc 2147483647, .ofNat 2147483647), (2, .ofNat 1, .ofNat 4)], [], []), [(48, .ofNat 57, []), (56, .ofNat 173, []), (18, .ofNat 2, []), (1, .ofNat 9, []), (1, .ofNat 0, []), (1, .ofNat 0, []), (0, .ofNat 0, [])], ([((40, .ofNat 173, []), (.ofNat 1, []), 17, .ofNat 1, []), ((40, .ofNat 173, []), (.ofNat 9, []), 1, .ofNat 0, [(.ofNat 1, 2)]), ((32, .ofNat 57, []), (.ofNat 1, []), 1, .ofNat 0, [(.ofNat 1, 1)]), ((32, .ofNat 57, []), (.ofNat 2, []), 1, .ofNat 0, [(.ofNat 1, 0)])], [])), (.ofNat 0, []))], [(13, false)], [(0, [[328]]), (13, [[361]])], [], [(4, [230])], [])
theorem gK231 : cChk 231 gCT gRU gC231 3 gH231 3000 = true := by decide +kernel
noncomputable def gH232 : sHt := ([], [], [(0, [[95]])], [], [], [])
theorem gK232 : cChk 232 gCT gRU gC232 0 gH232 3000 = true := by decide +kernel
noncomputable def gH233 : sHt := ([], [], [(0, [[95]])], [], [], [])
theorem gK233 : cChk 233 gCT gRU gC233 0 gH233 3000 = true := by decide +kernel
noncomputable def gH234 : sHt := ([], [], [(0, [[95]])], [], [], [])
theorem gK234 : cChk 234 gCT gRU gC234 0 gH234 3000 = true := by decide +kernel
noncomputable def gH235 : sHt := ([], [], [(0, [[95]])], [], [], [])
theorem gK235 : cChk 235 gCT gRU gC235 0 gH235 3000 = true := by decide +kernel
noncomputable def gH236 : sHt := ([], [], [(39, [[424, 425, 426]])], [], [], [])
theorem gK236 : cChk 236 gCT gRU gC236 0 gH236 3000 = true := by decide +kernel
noncomputable def gH237 : sHt := ([], [], [(0, [[95]])], [], [], [])
theorem gK237 : cChk 237 gCT gRU gC237 0 gH237 3000 = true := by decide +kernel
noncomputable def gH238 : sHt := ([], [], [(0, [[95]])], [], [], [])
theorem gK238 : cChk 238 gCT gRU gC238 0 gH238 3000 = true := by decide +kernel
noncomputable def gH239 : sHt := ([], [], [(0, [[95]])], [], [], [])
theorem gK239 : cChk 239 gCT gRU gC239 0 gH239 3000 = true := by decide +kernel
noncomputable def gH240 : sHt := ([], [], [(0, [[95]])], [], [], [])
theorem gK240 : cChk 240 gCT gRU gC240 0 gH240 3000 = true := by decide +kernel
noncomputable def gH241 : sHt := ([], [], [(0, [[95]])], [], [], [])
theorem gK241 : cChk 241 gCT gRU gC241 0 gH241 3000 = true := by decide +kernel
noncomputable def gH242 : sHt := ([], [], [(0, [[95]])], [], [], [])
theorem gK242 : cChk 242 gCT gRU gC242 0 gH242 3000 = true := by decide +kernel
noncomputable def gH243 : sHt := ([], [], [(0, [[95]])], [], [], [])
theorem gK243 : cChk 243 gCT gRU gC243 0 gH243 3000 = true := by decide +kernel
noncomputable def gH244 : sHt := ([], [], [(0, [[95]])], [], [], [])
theorem gK244 : cChk 244 gCT gRU gC244 0 gH244 3000 = true := by decide +kernel
noncomputable def gH245 : sHt := ([], [], [(0, [[95]])], [], [], [])
theorem gK245 : cChk 245 gCT gRU gC245 0 gH245 3000 = true := by decide +kernel
noncomputable def gH246 : sHt := ([], [], [(21, [[120, 132], [121, 122], [123, 124]]), (29, [[125]]), (45, [[126, 127], [128, 129]]), (57, [[130], [131]])], [], [(10, [218]), (23, [20, 27]), (47, [27])], [])
theorem gK246 : cChk 246 gCT gRU gC246 0 gH246 3000 = true := by decide +kernel
noncomputable def gH247 : sHt := ([], [], [(39, [[424, 425]])], [], [], [])
theorem gK247 : cChk 247 gCT gRU gC247 0 gH247 3000 = true := by decide +kernel
noncomputable def gH248 : sHt := ([], [], [(0, [[95]])], [], [], [])
theorem gK248 : cChk 248 gCT gRU gC248 0 gH248 3000 = true := by decide +kernel
noncomputable def gH249 : sHt := ([], [], [(0, [[95]])], [], [], [])
theorem gK249 : cChk 249 gCT gRU gC249 0 gH249 3000 = true := by decide +kernel
noncomputable def gH250 : sHt := ([], [], [(0, [[95]])], [], [], [])
theorem gK250 : cChk 250 gCT gRU gC250 0 gH250 3000 = true := by decide +kernel
noncomputable def gH251 : sHt := ([], [], [(0, [[417]]), (104, [[418, 427, 428]]), (109, [[419]]), (118, [[420, 421, 422, 423]])], [], [(68, [218]), (80, [233, 237, 240, 243, 248]), (89, [234, 238, 241, 244, 249]), (98, [235, 239, 242, 245, 250]), (106, [20, 27]), (113, [204, 246]), (124, [236, 247])], [])
theorem gK251 : cChk 251 gCT gRU gC251 2 gH251 3000 = true := by decide +kernel
noncomputable def gH252 : sHt := ([], [], [(23, [[172, 179, 180], [173, 174, 175], [176, 177, 178]]), (31, [[181], [182]]), (43, [[193], [194], [195]]), (54, [[196, 205], [197, 198, 199, 200, 201, 202], [203, 204]])], [], [(10, [218]), (17, [51, 52, 54, 55, 56]), (25, [20, 27]), (36, [201, 202]), (56, [20, 27])], [])
theorem gK252 : cChk 252 gCT gRU gC252 1 gH252 3000 = true := by decide +kernel
noncomputable def gH253 : sHt := ([], [], [(39, [[424, 425, 426]])], [], [], [])
theorem gK253 : cChk 253 gCT gRU gC253 0 gH253 3000 = true := by decide +kernel
noncomputable def gH254 : sHt := ([], [], [(39, [[424, 425, 426]])], [], [], [])
theorem gK254 : cChk 254 gCT gRU gC254 0 gH254 3000 = true := by decide +kernel
noncomputable def gH255 : sHt := ([], [], [(0, [[417]]), (118, [[420, 421, 422, 423]])], [], [(53, [252]), (124, [253, 254])], [])
theorem gK255 : cChk 255 gCT gRU gC255 2 gH255 3000 = true := by decide +kernel
noncomputable def gH256 : sHt := ([], [], [(23, [[172, 179, 180], [173, 174, 175], [176, 177, 178]]), (31, [[181], [182]]), (43, [[193], [194], [195]]), (54, [[196, 205], [197, 198, 199, 200, 201, 202], [203, 204]])], [], [(10, [218]), (17, [51, 52, 54, 55, 56]), (25, [20, 27]), (36, [201, 202]), (56, [20, 27])], [])
theorem gK256 : cChk 256 gCT gRU gC256 1 gH256 3000 = true := by decide +kernel
noncomputable def gH257 : sHt := ([], [], [(39, [[424]])], [], [], [])
theorem gK257 : cChk 257 gCT gRU gC257 0 gH257 3000 = true := by decide +kernel
noncomputable def gH258 : sHt := ([], [], [(39, [[424, 425, 426]])], [], [], [])
theorem gK258 : cChk 258 gCT gRU gC258 0 gH258 3000 = true := by decide +kernel
end CkChk9
