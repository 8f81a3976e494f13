section CkChk12
noncomputable def gH213 : sHt := ([], [], [(0, [[90]])], [], [], [])
theorem gK213 : cChk 213 gCT gRU gC213 0 gH213 3000 = true := by decide +kernel
noncomputable def gH214 : sHt := ([], [], [], [], [(1, [196]), (9, [213]), (35, [20]), (58, [20])], [])
theorem gK214 : cChk 214 gCT gRU gC214 2 gH214 3000 = true := by decide +kernel
noncomputable def gH215 : sHt := ([(13, ((4, [(1, .ofNat 0, .ofNat 40), (2, .ofNat 0, .ofNat 940), (3, .ofNat 1, .ofNat 4)], [], []), [(48, .ofNat 57, []), (56, .ofNat 173, []), (18, .ofNat 0, [(.ofNat 1, 0)]), (1, .ofNat 9, []), (1, .ofNat 0, []), (1, .ofNat 0, []), (0, .ofNat 0, [])], ([((40, .ofNat 173, []), (.ofNat 10, []), 1, .ofNat 0, [(.ofNat 1, 2)]), ((40, .ofNat 173, []), (.ofNat 9, []), 1, .ofNat 0, [(.ofNat 1, 3)]), ((40, .ofNat 173, []), (.ofNat 1, []), 17, .ofNat 1, []), ((32, .ofNat 57, []), (.ofNat 2, []), 1, .ofNat 0, [(.ofNat 1, 1)])], [(2, [(.ofNat 0, [(.ofNat 1, 1)])])])), (.ofNat 0, []))], [(13, false)], [], [], [(4, [214])], [])
theorem gK215 : cChk 215 gCT gRU gC215 3 gH215 3000 = true := by decide +kernel
noncomputable def gH216 : sHt := ([], [], [(0, [[90]])], [], [], [])
theorem gK216 : cChk 216 gCT gRU gC216 0 gH216 3000 = true := by decide +kernel
noncomputable def gH217 : sHt := ([], [], [(0, [[90]])], [], [], [])
theorem gK217 : cChk 217 gCT gRU gC217 0 gH217 3000 = true := by decide +kernel
noncomputable def gH218 : sHt := ([], [], [(0, [[90]])], [], [], [])
theorem gK218 : cChk 218 gCT gRU gC218 0 gH218 3000 = true := by decide +kernel
noncomputable def gH219 : sHt := ([], [], [(0, [[90]])], [], [], [])
theorem gK219 : cChk 219 gCT gRU gC219 0 gH219 3000 = true := by decide +kernel
noncomputable def gH220 : sHt := ([], [], [(0, [[90]])], [], [], [])
theorem gK220 : cChk 220 gCT gRU gC220 0 gH220 3000 = true := by decide +kernel
noncomputable def gH221 : sHt := ([], [], [], [], [(1, [34]), (9, [220]), (35, [27]), (58, [27])], [])
theorem gK221 : cChk 221 gCT gRU gC221 2 gH221 3000 = true := by decide +kernel
noncomputable def gH222 : sHt := ([(13, ((3, [(1, .ofNat 0, .ofNat 40), (2, .ofNat 1, .ofNat 4)], [], []), [(48, .ofNat 57, []), (56, .ofNat 173, []), (18, .ofNat 0, [(.ofNat 1, 0)]), (1, .ofNat 9, []), (1, .ofNat 0, []), (1, .ofNat 0, []), (0, .ofNat 0, [])], ([((40, .ofNat 173, []), (.ofNat 1, []), 17, .ofNat 1, []), ((40, .ofNat 173, []), (.ofNat 9, []), 1, .ofNat 0, [(.ofNat 1, 2)]), ((32, .ofNat 57, []), (.ofNat 2, []), 1, .ofNat 0, [(.ofNat 1, 1)])], [])), (.ofNat 0, []))], [(13, false)], [], [], [(4, [221])], [])
theorem gK222 : cChk 222 gCT gRU gC222 3 gH222 3000 = true := by decide +kernel
noncomputable def gH223 : sHt := ([], [], [(39, [[246, 247, 248]])], [], [], [])
theorem gK223 : cChk 223 gCT gRU gC223 0 gH223 3000 = true := by decide +kernel
noncomputable def gH224 : sHt := ([], [], [(0, [[90]])], [], [], [])
theorem gK224 : cChk 224 gCT gRU gC224 0 gH224 3000 = true := by decide +kernel
noncomputable def gH225 : sHt := ([], [], [(0, [[90]])], [], [], [])
theorem gK225 : cChk 225 gCT gRU gC225 0 gH225 3000 = true := by decide +kernel
noncomputable def gH226 : sHt := ([], [], [(0, [[90]])], [], [], [])
theorem gK226 : cChk 226 gCT gRU gC226 0 gH226 3000 = true := by decide +kernel
noncomputable def gH227 : sHt := ([], [], [(39, [[246, 247, 248]])], [], [], [])
theorem gK227 : cChk 227 gCT gRU gC227 0 gH227 3000 = true := by decide +kernel
noncomputable def gH228 : sHt := ([], [], [(0, [[90]])], [], [], [])
theorem gK228 : cChk 228 gCT gRU gC228 0 gH228 3000 = true := by decide +kernel
noncomputable def gH229 : sHt := ([], [], [(0, [[90]])], [], [], [])
theorem gK229 : cChk 229 gCT gRU gC229 0 gH229 3000 = true := by decide +kernel
noncomputable def gH230 : sHt := ([], [], [(0, [[90]])], [], [], [])
theorem gK230 : cChk 230 gCT gRU gC230 0 gH230 3000 = true := by decide +kernel
noncomputable def gH231 : sHt := ([], [], [(0, [[90]])], [], [], [])
theorem gK231 : cChk 231 gCT gRU gC231 0 gH231 3000 = true := by decide +kernel
noncomputable def gH232 : sHt := ([], [], [(0, [[90]])], [], [], [])
theorem gK232 : cChk 232 gCT gRU gC232 0 gH232 3000 = true := by decide +kernel
noncomputable def gH233 : sHt := ([], [], [(0, [[90]])], [], [], [])
theorem gK233 : cChk 233 gCT gRU gC233 0 gH233 3000 = true := by decide +kernel
noncomputable def gH234 : sHt := ([], [], [(0, [[90]])], [], [], [])
theorem gK234 : cChk 234 gCT gRU gC234 0 gH234 3000 = true := by decide +kernel
noncomputable def gH235 : sHt := ([], [], [(0, [[90]])], [], [], [])
theorem gK235 : cChk 235 gCT gRU gC235 0 gH235 3000 = true := by decide +kernel
noncomputable def gH236 : sHt := ([], [], [(0, [[90]])], [], [], [])
theorem gK236 : cChk 236 gCT gRU gC236 0 gH236 3000 = true := by decide +kernel
noncomputable def gH237 : sHt := ([], [], [(39, [[246, 247]])], [], [], [])
theorem gK237 : cChk 237 gCT gRU gC237 0 gH237 3000 = true := by decide +kernel
noncomputable def gH238 : sHt := ([], [], [(0, [[90]])], [], [], [])
theorem gK238 : cChk 238 gCT gRU gC238 0 gH238 3000 = true := by decide +kernel
noncomputable def gH239 : sHt := ([], [], [(0, [[90]])], [], [], [])
theorem gK239 : cChk 239 gCT gRU gC239 0 gH239 3000 = true := by decide +kernel
end CkChk12
