section CkChk9
noncomputable def gH226 : sHt := ([], [], [(0, [[92]])], [], [], [])
theorem gK226 : cChk 226 gCT gRU gC226 0 gH226 3000 = true := by decide +kernel
noncomputable def gH227 : sHt := ([], [], [(0, [[277], [278], [279, 286, 288, 290, 292, 294, 296, 298], [280], [281]]), (33, [[282, 283, 284, 304, 307, 308]]), (56, [[300, 301, 302, 303, 305, 306]])], [], [(1, [34]), (9, [226]), (35, [27]), (58, [27])], [])
theorem gK227 : cChk 227 gCT gRU gC227 2 gH227 3000 = true := by decide +kernel
noncomputable def gH228 : sHt := ([(13, ((3, [(0, .ofNat 0, .ofNat 40), (1, .negSucc 2147483647, .ofNat 2147483647), (2, .ofNat 1, .ofNat 4)], [], []), [(48, .ofNat 57, []), (56, .ofNat 173, []), (18, .ofNat 2, []), (1, .ofNat 9, []), (1, .ofNat 0, []), (1, .ofNat 0, []), (0, .ofNat 0, [])], ([((40, .ofNat 173, []), (.ofNat 1, []), 17, .ofNat 1, []), ((40, .ofNat 173, []), (.ofNat 9, []), 1, .ofNat 0, [(.ofNat 1, 2)]), ((32, .ofNat 57, []), (.ofNat 1, []), 1, .ofNat 0, [(.ofNat 1, 1)]), ((32, .ofNat 57, []), (.ofNat 2, []), 1, .ofNat 0, [(.ofNat 1, 0)])], [])), (.ofNat 0, []))], [(13, false)], [(0, [[276]]), (13, [[309]])], [], [(4, [227])], [])
theorem gK228 : cChk 228 gCT gRU gC228 3 gH228 3000 = true := by decide +kernel
noncomputable def gH229 : sHt := ([], [], [(0, [[92]])], [], [], [])
theorem gK229 : cChk 229 gCT gRU gC229 0 gH229 3000 = true := by decide +kernel
noncomputable def gH230 : sHt := ([], [], [(0, [[92]])], [], [], [])
theorem gK230 : cChk 230 gCT gRU gC230 0 gH230 3000 = true := by decide +kernel
noncomputable def gH231 : sHt := ([], [], [(0, [[92]])], [], [], [])
theorem gK231 : cChk 231 gCT gRU gC231 0 gH231 3000 = true := by decide +kernel
noncomputable def gH232 : sHt := ([], [], [(0, [[92]])], [], [], [])
theorem gK232 : cChk 232 gCT gRU gC232 0 gH232 3000 = true := by decide +kernel
noncomputable def gH233 : sHt := ([], [], [], [], [], [])
theorem gK233 : cChk 233 gCT gRU gC233 0 gH233 3000 = true := by decide +kernel
noncomputable def gH234 : sHt := ([], [], [(39, [[372, 373, 374]])], [], [], [])
theorem gK234 : cChk 234 gCT gRU gC234 0 gH234 3000 = true := by decide +kernel
noncomputable def gH235 : sHt := ([], [], [(0, [[92]])], [], [], [])
theorem gK235 : cChk 235 gCT gRU gC235 0 gH235 3000 = true := by decide +kernel
noncomputable def gH236 : sHt := ([], [], [(0, [[92]])], [], [], [])
theorem gK236 : cChk 236 gCT gRU gC236 0 gH236 3000 = true := by decide +kernel
noncomputable def gH237 : sHt := ([], [], [(0, [[92]])], [], [], [])
theorem gK237 : cChk 237 gCT gRU gC237 0 gH237 3000 = true := by decide +kernel
noncomputable def gH238 : sHt := ([], [], [(0, [[92]])], [], [], [])
theorem gK238 : cChk 238 gCT gRU gC238 0 gH238 3000 = true := by decide +kernel
noncomputable def gH239 : sHt := ([], [], [(0, [[92]])], [], [], [])
theorem gK239 : cChk 239 gCT gRU gC239 0 gH239 3000 = true := by decide +kernel
noncomputable def gH240 : sHt := ([], [], [(0, [[92]])], [], [], [])
theorem gK240 : cChk 240 gCT gRU gC240 0 gH240 3000 = true := by decide +kernel
noncomputable def gH241 : sHt := ([], [], [(0, [[92]])], [], [], [])
theorem gK241 : cChk 241 gCT gRU gC241 0 gH241 3000 = true := by decide +kernel
noncomputable def gH242 : sHt := ([], [], [(0, [[92]])], [], [], [])
theorem gK242 : cChk 242 gCT gRU gC242 0 gH242 3000 = true := by decide +kernel
noncomputable def gH243 : sHt := ([], [], [(0, [[92]])], [], [], [])
theorem gK243 : cChk 243 gCT gRU gC243 0 gH243 3000 = true := by decide +kernel
noncomputable def gH244 : sHt := ([], [], [(21, [[108, 115], [109, 110]]), (29, [[111]]), (45, [[112, 113]]), (57, [[114]])], [], [(10, [215]), (23, [20, 27]), (47, [27])], [])
theorem gK244 : cChk 244 gCT gRU gC244 0 gH244 3000 = true := by decide +kernel
noncomputable def gH245 : sHt := ([], [], [(39, [[372, 373]])], [], [], [])
theorem gK245 : cChk 245 gCT gRU gC245 0 gH245 3000 = true := by decide +kernel
noncomputable def gH246 : sHt := ([], [], [(0, [[92]])], [], [], [])
theorem gK246 : cChk 246 gCT gRU gC246 0 gH246 3000 = true := by decide +kernel
noncomputable def gH247 : sHt := ([], [], [(0, [[92]])], [], [], [])
theorem gK247 : cChk 247 gCT gRU gC247 0 gH247 3000 = true := by decide +kernel
noncomputable def gH248 : sHt := ([], [], [(0, [[92]])], [], [], [])
theorem gK248 : cChk 248 gCT gRU gC248 0 gH248 3000 = true := by decide +kernel
noncomputable def gH249 : sHt := ([], [], [(0, [[365]]), (104, [[366, 375, 376]]), (109, [[367]]), (118, [[368, 369, 370, 371]])], [], [(68, [215]), (80, [230, 235, 238, 241, 246]), (89, [231, 236, 239, 242, 247]), (98, [232, 237, 240, 243, 248]), (106, [20, 27]), (113, [233, 244]), (124, [234, 245])], [])
theorem gK249 : cChk 249 gCT gRU gC249 2 gH249 3000 = true := by decide +kernel
noncomputable def gH250 : sHt := ([(2, ((2, [(1, .ofNat 0, .ofNat 12)], [], []), [(18, .ofNat 2, []), (5, .ofNat 0, [(.ofNat 1, 0)]), (0, .ofNat 0, []), (1, .ofNat 0, [(.ofNat 1, 1)])], ([((0, .ofNat 0, []), (.ofNat 6, []), 18, .ofNat 2, [])], [(203, []), (198, [(.ofNat 0, [(.ofNat 1, 1)]), (.ofNat 0, [(.ofNat 1, 0)])])])), (.ofNat 12, [(.negSucc 0, 1)]))], [(2, false)], [(0, [[161], [162]]), (19, [[267], [268]]), (21, [[263, 264], [265, 266]]), (27, [[169], [170]])], [], [], [])
theorem gK250 : cChk 250 gCT gRU gC250 1 gH250 3000 = true := by decide +kernel
noncomputable def gH251 : sHt := ([], [], [(23, [[154, 158, 159], [155, 156, 157]]), (31, [[160]]), (43, [[171], [172]]), (54, [[173, 180], [174, 175, 176, 177, 178, 179]])], [], [(10, [215]), (17, [51, 52, 54, 55, 56]), (25, [20, 27]), (36, [250, 202]), (56, [20, 27])], [])
theorem gK251 : cChk 251 gCT gRU gC251 1 gH251 3000 = true := by decide +kernel
noncomputable def gH252 : sHt := ([], [], [(39, [[372, 373, 374]])], [], [], [])
theorem gK252 : cChk 252 gCT gRU gC252 0 gH252 3000 = true := by decide +kernel
noncomputable def gH253 : sHt := ([], [], [(39, [[372, 373, 374]])], [], [], [])
theorem gK253 : cChk 253 gCT gRU gC253 0 gH253 3000 = true := by decide +kernel
noncomputable def gH254 : sHt := ([], [], [(0, [[365]]), (118, [[368, 369, 370, 371]])], [], [(53, [251]), (124, [252, 253])], [])
theorem gK254 : cChk 254 gCT gRU gC254 2 gH254 3000 = true := by decide +kernel
noncomputable def gH255 : sHt := ([], [], [(23, [[154, 158, 159], [155, 156, 157]]), (31, [[160]]), (43, [[171], [172]]), (54, [[173, 180], [174, 175, 176, 177, 178, 179]])], [], [(10, [215]), (17, [51, 52, 54, 55, 56]), (25, [20, 27]), (36, [250, 202]), (56, [20, 27])], [])
theorem gK255 : cChk 255 gCT gRU gC255 1 gH255 3000 = true := by decide +kernel
noncomputable def gH256 : sHt := ([], [], [(39, [[372]])], [], [], [])
theorem gK256 : cChk 256 gCT gRU gC256 0 gH256 3000 = true := by decide +kernel
noncomputable def gH257 : sHt := ([], [], [(39, [[372, 373, 374]])], [], [], [])
theorem gK257 : cChk 257 gCT gRU gC257 0 gH257 3000 = true := by decide +kernel
noncomputable def gH258 : sHt := ([], [], [(0, [[365]]), (118, [[368, 369, 370, 371]])], [], [(35, [255]), (124, [256, 257])], [])
theorem gK258 : cChk 258 gCT gRU gC258 2 gH258 3000 = true := by decide +kernel
noncomputable def gH259 : sHt := ([], [], [(23, [[154, 158, 159], [155, 156, 157]]), (31, [[160]]), (43, [[171], [172]]), (54, [[173, 180], [174, 175, 176, 177, 178, 179]])], [], [(10, [215]), (17, [51, 52, 54, 55, 56]), (25, [20, 27]), (36, [250, 202]), (56, [20, 27])], [])
theorem gK259 : cChk 259 gCT gRU gC259 1 gH259 3000 = true := by decide +kernel
end CkChk9
