section CkChk29
noncomputable def gH420 : sHt := ([], [], [(71, [[80]]), (120, [[79]])], [], [(1, [416]), (8, [308]), (18, [308]), (29, [308]), (42, [418, 419]), (57, [308]), (87, [307]), (95, [418]), (101, [329]), (116, [309]), (141, [307])], [])
theorem gK420 : cChk 420 gCT gRU gC420 0 gH420 3000 = true := by decide +kernel
noncomputable def gH421 : sHt := ([], [], [], [], [(4, [308]), (18, [308]), (32, [308]), (46, [308]), (60, [308]), (74, [308]), (88, [308]), (103, [308]), (118, [308])], [])
theorem gK421 : cChk 421 gCT gRU gC421 0 gH421 3000 = true := by decide +kernel
noncomputable def gH422 : sHt := ([], [], [(40, [[66, 67, 68]])], [], [], [])
theorem gK422 : cChk 422 gCT gRU gC422 0 gH422 3000 = true := by decide +kernel
noncomputable def gH423 : sHt := ([], [], [(40, [[66, 67, 68]])], [], [], [])
theorem gK423 : cChk 423 gCT gRU gC423 0 gH423 3000 = true := by decide +kernel
noncomputable def gH424 : sHt := ([(2, ((2, [(0, .ofNat 0, .ofNat 5), (1, .ofNat 0, .ofNat 5)], [], []), [(94, .ofNat 273, []), (1, .ofNat 0, []), (1, .ofNat 0, [(.ofNat 1, 0)]), (1, .ofNat 0, [(.ofNat 1, 1)])], ([], [])), (.ofNat 5, [(.negSucc 0, 1)]))], [(2, false)], [], [], [], [])
theorem gK424 : cChk 424 gCT gRU gC424 1 gH424 3000 = true := by decide +kernel
noncomputable def gH425 : sHt := ([(2, ((2, [(0, .ofNat 0, .ofNat 5), (1, .ofNat 0, .ofNat 5)], [], []), [(94, .ofNat 273, []), (1, .ofNat 4, []), (1, .ofNat 0, [(.ofNat 1, 0)]), (1, .ofNat 0, [(.ofNat 1, 1)])], ([], [])), (.ofNat 5, [(.negSucc 0, 1)]))], [(2, false)], [], [], [], [])
theorem gK425 : cChk 425 gCT gRU gC425 1 gH425 3000 = true := by decide +kernel
noncomputable def gH426 : sHt := ([], [], [(40, [[66, 67, 68, 69, 70]])], [], [], [])
theorem gK426 : cChk 426 gCT gRU gC426 0 gH426 3000 = true := by decide +kernel
noncomputable def gH427 : sHt := ([], [], [(40, [[66, 67, 68, 69]])], [], [], [])
theorem gK427 : cChk 427 gCT gRU gC427 0 gH427 3000 = true := by decide +kernel
noncomputable def gH428 : sHt := ([], [], [(104, [[71, 72]])], [], [(4, [308]), (11, [329]), (16, [421]), (34, [309]), (58, [309]), (73, [307]), (140, [422]), (151, [314]), (159, [309]), (177, [404]), (196, [424]), (210, [425]), (222, [309]), (231, [423, 426]), (235, [307]), (268, [309]), (279, [307]), (292, [309]), (304, [427]), (308, [307])], [])
theorem gK428 : cChk 428 gCT gRU gC428 4 gH428 3000 = true := by decide +kernel
end CkChk29
