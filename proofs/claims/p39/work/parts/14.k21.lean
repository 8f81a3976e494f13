section CkChk21
noncomputable def gH324 : sHt := ([], [], [], [], [(4, [308]), (18, [308]), (32, [308]), (46, [308]), (60, [308])], [])
theorem gK324 : cChk 324 gCT gRU gC324 0 gH324 3000 = true := by decide +kernel
noncomputable def gH325 : sHt := ([], [], [], [], [(2, [324]), (17, [309]), (22, [307])], [])
theorem gK325 : cChk 325 gCT gRU gC325 0 gH325 3000 = true := by decide +kernel
noncomputable def gH326 : sHt := ([(44, ((9, [(0, .ofNat 0, .ofNat 940), (1, .ofNat 1, .ofNat 10), (2, .ofNat 1, .ofNat 10), (3, .ofNat 0, .ofNat 7), (4, .ofNat 0, .ofNat 7), (5, .ofNat 1, .ofNat 4), (6, .ofNat 0, .ofNat 4), (7, .ofNat 0, .ofNat 940), (8, .ofNat 0, .ofNat 940)], [(.ofNat 0, [(.ofNat 1, 0), (.negSucc 0, 7)])], []), [(94, .ofNat 273, []), (1, .ofNat 0, [(.ofNat 1, 3)]), (1, .ofNat 0, [(.ofNat 1, 4)])], ([((78, .ofNat 273, []), (.ofNat 18, []), 1, .ofNat 0, [(.ofNat 1, 5)]), ((78, .ofNat 273, []), (.ofNat 21, []), 1, .ofNat 0, [(.ofNat 1, 6)]), ((78, .ofNat 273, []), (.ofNat 11, []), 1, .ofNat 2, []), ((78, .ofNat 273, []), (.ofNat 4, []), 1, .ofNat 0, [(.ofNat 1, 7)]), ((78, .ofNat 273, []), (.ofNat 3, []), 1, .ofNat 0, [(.ofNat 1, 8)]), ((81, .ofNat 276, []), (.ofNat 6, []), 1, .ofNat 0, [(.ofNat 1, 3)]), ((81, .ofNat 276, []), (.ofNat 1, []), 1, .ofNat 0, [(.ofNat 1, 2)]), ((81, .ofNat 276, []), (.ofNat 0, []), 1, .ofNat 0, [(.ofNat 1, 1)]), ((78, .ofNat 273, []), (.ofNat 7, []), 97, .ofNat 276, [])], [(6, [(.ofNat 0, [(.ofNat 1, 3)])])])), (.ofNat 7, [(.negSucc 0, 4)]))], [(44, false)], [(153, [[38]])], [], [(16, [309]), (21, [307]), (25, [325]), (34, [311]), (85, [309]), (124, [307]), (131, [312])], [])
theorem gK326 : cChk 326 gCT gRU gC326 2 gH326 3000 = true := by decide +kernel
noncomputable def gH327 : sHt := ([], [], [], [], [(14, [309]), (19, [307]), (27, [320]), (37, [312]), (63, [312]), (98, [308]), (114, [308]), (121, [307])], [])
theorem gK327 : cChk 327 gCT gRU gC327 1 gH327 3000 = true := by decide +kernel
end CkChk21
