section CkChk13
noncomputable def gH240 : sHt := ([], [], [(0, [[90]])], [], [], [])
theorem gK240 : cChk 240 gCT gRU gC240 0 gH240 3000 = true := by decide +kernel
noncomputable def gH241 : sHt := ([], [], [(23, [[149, 150, 151]]), (43, [[157]]), (54, [[158, 159]])], [], [(10, [195]), (17, [51, 52, 54, 55, 201]), (25, [20, 27]), (36, [200]), (56, [20])], [])
theorem gK241 : cChk 241 gCT gRU gC241 1 gH241 3000 = true := by decide +kernel
noncomputable def gH242 : sHt := ([], [], [(39, [[246, 247, 248]])], [], [], [])
theorem gK242 : cChk 242 gCT gRU gC242 0 gH242 3000 = true := by decide +kernel
noncomputable def gH243 : sHt := ([], [], [(39, [[246, 247, 248]])], [], [], [])
theorem gK243 : cChk 243 gCT gRU gC243 0 gH243 3000 = true := by decide +kernel
noncomputable def gH244 : sHt := ([], [], [(23, [[149, 150, 151]]), (43, [[157]]), (54, [[158, 159]])], [], [(10, [195]), (17, [51, 52, 54, 55, 201]), (25, [20, 27]), (36, [200]), (56, [20])], [])
theorem gK244 : cChk 244 gCT gRU gC244 1 gH244 3000 = true := by decide +kernel
noncomputable def gH245 : sHt := ([], [], [(39, [[246]])], [], [], [])
theorem gK245 : cChk 245 gCT gRU gC245 0 gH245 3000 = true := by decide +kernel
noncomputable def gH246 : sHt := ([], [], [(39, [[246, 247, 248]])], [], [], [])
theorem gK246 : cChk 246 gCT gRU gC246 0 gH246 3000 = true := by decide +kernel
noncomputable def gH247 : sHt := ([], [], [(39, [[246]])], [], [], [])
theorem gK247 : cChk 247 gCT gRU gC247 0 gH247 3000 = true := by decide +kernel
noncomputable def gH248 : sHt := ([], [], [(0, [[249]])], [], [(17, [202]), (35, [244]), (53, [241]), (68, [195]), (80, [224, 228, 231, 234, 238]), (89, [225, 229, 232, 235, 239]), (98, [226, 230, 233, 236, 240]), (106, [20, 27]), (113, [32, 199]), (124, [227, 237, 242, 243, 245, 246, 247])], [])
theorem gK248 : cChk 248 gCT gRU gC248 2 gH248 3000 = true := by decide +kernel
noncomputable def gH249 : sHt := ([], [], [], [], [(1, [196]), (9, [213]), (35, [20]), (58, [20]), (85, [195]), (94, [215, 222]), (100, [216, 217, 218, 219]), (108, [27]), (122, [195]), (131, [214, 221]), (139, [223]), (148, [248]), (159, [195])], [])
theorem gK249 : cChk 249 gCT gRU gC249 2 gH249 3000 = true := by decide +kernel
end CkChk13
