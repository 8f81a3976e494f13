section CkChk33
noncomputable def gH378 : sHt := ([], [], [(0, [[350]]), (21, [[351, 352]])], [], [], [])
theorem gK378 : cChk 378 gCT gRU gC378 0 gH378 3000 = true := by decide +kernel
noncomputable def gH379 : sHt := ([], [], [(0, [[350, 353]]), (21, [[351, 352]])], [], [], [])
theorem gK379 : cChk 379 gCT gRU gC379 0 gH379 3000 = true := by decide +kernel
noncomputable def gH380 : sHt := ([], [], [(0, [[350, 353, 354, 355, 356]]), (21, [[351, 352]])], [], [], [])
theorem gK380 : cChk 380 gCT gRU gC380 0 gH380 3000 = true := by decide +kernel
noncomputable def gH381 : sHt := ([], [], [(0, [[350, 353, 354, 355, 356, 357, 358, 359]]), (21, [[351, 352]])], [], [], [])
theorem gK381 : cChk 381 gCT gRU gC381 0 gH381 3000 = true := by decide +kernel
noncomputable def gH382 : sHt := ([], [], [(0, [[350, 353, 354]]), (21, [[351, 352]])], [], [], [])
theorem gK382 : cChk 382 gCT gRU gC382 0 gH382 3000 = true := by decide +kernel
noncomputable def gH383 : sHt := ([], [], [(0, [[350, 353, 354, 355]]), (21, [[351, 352]])], [], [], [])
theorem gK383 : cChk 383 gCT gRU gC383 0 gH383 3000 = true := by decide +kernel
noncomputable def gH384 : sHt := ([], [], [(0, [[350, 353, 354, 355, 356, 357]]), (21, [[351, 352]])], [], [], [])
theorem gK384 : cChk 384 gCT gRU gC384 0 gH384 3000 = true := by decide +kernel
noncomputable def gH385 : sHt := ([], [], [(0, [[350, 353, 354, 355, 356, 357, 358]]), (21, [[351, 352]])], [], [], [])
theorem gK385 : cChk 385 gCT gRU gC385 0 gH385 3000 = true := by decide +kernel
noncomputable def gH386 : sHt := ([], [], [], [], [], [])
theorem gK386 : cChk 386 gCT gRU gC386 0 gH386 3000 = true := by decide +kernel
noncomputable def gH387 : sHt := ([], [], [(0, [[349]]), (396, [[360]])], [], [(4, [378]), (82, [379]), (142, [380]), (157, [381]), (172, [382]), (248, [383]), (378, [384]), (390, [385]), (398, [386])], [])
theorem gK387 : cChk 387 gCT gRU gC387 1 gH387 3000 = true := by decide +kernel
noncomputable def gH388 : sHt := ([], [], [(0, [[350]]), (17, [[363]]), (21, [[351, 352]])], [], [], [])
theorem gK388 : cChk 388 gCT gRU gC388 0 gH388 3000 = true := by decide +kernel
noncomputable def gH389 : sHt := ([], [], [(0, [[350, 353]]), (17, [[363]]), (21, [[351, 352]])], [], [], [])
theorem gK389 : cChk 389 gCT gRU gC389 0 gH389 3000 = true := by decide +kernel
noncomputable def gH390 : sHt := ([], [], [(0, [[350, 353, 354, 355, 356]]), (17, [[363]]), (21, [[351, 352]])], [], [], [])
theorem gK390 : cChk 390 gCT gRU gC390 0 gH390 3000 = true := by decide +kernel
noncomputable def gH391 : sHt := ([], [], [(0, [[350, 353, 354, 355, 356, 357, 358, 359]]), (17, [[363]]), (21, [[351, 352]])], [], [], [])
theorem gK391 : cChk 391 gCT gRU gC391 0 gH391 3000 = true := by decide +kernel
noncomputable def gH392 : sHt := ([], [], [(0, [[350, 353, 354]]), (17, [[363]]), (21, [[351, 352]])], [], [], [])
theorem gK392 : cChk 392 gCT gRU gC392 0 gH392 3000 = true := by decide +kernel
noncomputable def gH393 : sHt := ([], [], [(0, [[350, 353, 354, 355]]), (17, [[363]]), (21, [[351, 352]])], [], [], [])
theorem gK393 : cChk 393 gCT gRU gC393 0 gH393 3000 = true := by decide +kernel
noncomputable def gH394 : sHt := ([], [], [(0, [[350, 353, 354, 355, 356, 357]]), (17, [[363]]), (21, [[351, 352]])], [], [], [])
theorem gK394 : cChk 394 gCT gRU gC394 0 gH394 3000 = true := by decide +kernel
noncomputable def gH395 : sHt := ([], [], [(0, [[350, 353, 354, 355, 356, 357, 358]]), (17, [[363]]), (21, [[351, 352]])], [], [], [])
theorem gK395 : cChk 395 gCT gRU gC395 0 gH395 3000 = true := by decide +kernel
noncomputable def gH396 : sHt := ([], [], [(0, [[350, 353, 354, 355, 356, 357, 358, 359, 371]]), (21, [[351, 352]])], [], [], [])
theorem gK396 : cChk 396 gCT gRU gC396 0 gH396 3000 = true := by decide +kernel
noncomputable def gH397 : sHt := ([], [], [(0, [[350, 353, 354, 355, 356, 357, 358, 359, 371, 372]]), (21, [[351, 352]])], [], [], [])
theorem gK397 : cChk 397 gCT gRU gC397 0 gH397 3000 = true := by decide +kernel
noncomputable def gH398 : sHt := ([], [], [(0, [[350, 353, 354, 355, 356, 357, 358, 359, 371, 372, 373]]), (21, [[351, 352]])], [], [], [])
theorem gK398 : cChk 398 gCT gRU gC398 0 gH398 3000 = true := by decide +kernel
noncomputable def gH399 : sHt := ([], [], [(0, [[350, 353, 354, 355, 356, 357, 358, 359, 371, 372, 373, 374]]), (21, [[351, 352]])], [], [], [])
theorem gK399 : cChk 399 gCT gRU gC399 0 gH399 3000 = true := by decide +kernel
noncomputable def gH400 : sHt := ([], [], [(0, [[350, 353, 354, 355, 356, 357, 358, 359, 371, 372, 373, 374, 375]]), (21, [[351, 352]])], [], [], [])
theorem gK400 : cChk 400 gCT gRU gC400 0 gH400 3000 = true := by decide +kernel
noncomputable def gH401 : sHt := ([], [], [], [], [(4, [396]), (18, [397]), (32, [398]), (46, [399]), (60, [400])], [])
theorem gK401 : cChk 401 gCT gRU gC401 0 gH401 3000 = true := by decide +kernel
noncomputable def gH402 : sHt := ([], [], [(15, [[376, 377]])], [], [(2, [401]), (17, [386])], [])
theorem gK402 : cChk 402 gCT gRU gC402 0 gH402 3000 = true := by decide +kernel
noncomputable def gH403 : sHt := ([], [], [(0, [[350, 353, 354, 355, 356, 357, 358, 359, 371]]), (17, [[363]]), (21, [[351, 352]])], [], [], [])
theorem gK403 : cChk 403 gCT gRU gC403 0 gH403 3000 = true := by decide +kernel
noncomputable def gH404 : sHt := ([], [], [(0, [[350, 353, 354, 355, 356, 357, 358, 359, 371, 372]]), (17, [[363]]), (21, [[351, 352]])], [], [], [])
theorem gK404 : cChk 404 gCT gRU gC404 0 gH404 3000 = true := by decide +kernel
noncomputable def gH405 : sHt := ([], [], [(0, [[350, 353, 354, 355, 356, 357, 358, 359, 371, 372, 373]]), (17, [[363]]), (21, [[351, 352]])], [], [], [])
theorem gK405 : cChk 405 gCT gRU gC405 0 gH405 3000 = true := by decide +kernel
noncomputable def gH406 : sHt := ([], [], [(0, [[350, 353, 354, 355, 356, 357, 358, 359, 371, 372, 373, 374]]), (17, [[363]]), (21, [[351, 352]])], [], [], [])
theorem gK406 : cChk 406 gCT gRU gC406 0 gH406 3000 = true := by decide +kernel
noncomputable def gH407 : sHt := ([], [], [(0, [[350, 353, 354, 355, 356, 357, 358, 359, 371, 372, 373, 374, 375]]), (17, [[363]]), (21, [[351, 352]])], [], [], [])
theorem gK407 : cChk 407 gCT gRU gC407 0 gH407 3000 = true := by decide +kernel
noncomputable def gH408 : sHt := ([], [], [], [], [(4, [403]), (18, [404]), (32, [405]), (46, [406]), (60, [407])], [])
theorem gK408 : cChk 408 gCT gRU gC408 0 gH408 3000 = true := by decide +kernel
noncomputable def gH409 : sHt := ([], [], [(15, [[376, 377, 378, 379]]), (21, [[380, 381, 382, 383, 384]])], [], [(2, [408]), (17, [386]), (22, [377])], [])
theorem gK409 : cChk 409 gCT gRU gC409 0 gH409 3000 = true := by decide +kernel
noncomputable def gH410 : sHt := ([], [], [(8, [[386, 387]])], [], [(10, [386])], [])
theorem gK410 : cChk 410 gCT gRU gC410 0 gH410 3000 = true := by decide +kernel
noncomputable def gH411 : sHt := ([], [], [(8, [[386]])], [], [(10, [386])], [])
theorem gK411 : cChk 411 gCT gRU gC411 0 gH411 3000 = true := by decide +kernel
noncomputable def gH412 : sHt := ([], [], [(8, [[386, 387]])], [], [(10, [386])], [])
theorem gK412 : cChk 412 gCT gRU gC412 0 gH412 3000 = true := by decide +kernel
noncomputable def gH413 : sHt := ([], [], [(8, [[386]])], [], [(10, [386])], [])
theorem gK413 : cChk 413 gCT gRU gC413 0 gH413 3000 = true := by decide +kernel
noncomputable def gH414 : sHt := ([], [], [], [], [], [])
theorem gK414 : cChk 414 gCT gRU gC414 0 gH414 3000 = true := by decide +kernel
noncomputable def gH415 : sHt := ([], [], [(34, [[388, 389]]), (42, [[390]])], [], [(28, [414]), (36, [386])], [])
theorem gK415 : cChk 415 gCT gRU gC415 0 gH415 3000 = true := by decide +kernel
noncomputable def gH416 : sHt := ([], [], [(0, [[350, 353, 354, 355, 356, 357, 358, 359, 371]]), (21, [[351, 352]])], [], [], [])
theorem gK416 : cChk 416 gCT gRU gC416 0 gH416 3000 = true := by decide +kernel
noncomputable def gH417 : sHt := ([], [], [(0, [[350, 353, 354, 355, 356, 357, 358, 359, 371, 372]]), (21, [[351, 352]])], [], [], [])
theorem gK417 : cChk 417 gCT gRU gC417 0 gH417 3000 = true := by decide +kernel
noncomputable def gH418 : sHt := ([], [], [(0, [[350, 353, 354, 355, 356, 357, 358, 359, 371, 372, 373]]), (21, [[351, 352]])], [], [], [])
theorem gK418 : cChk 418 gCT gRU gC418 0 gH418 3000 = true := by decide +kernel
noncomputable def gH419 : sHt := ([], [], [(0, [[350, 353, 354, 355, 356, 357, 358, 359, 371, 372, 373, 374]]), (21, [[351, 352]])], [], [], [])
theorem gK419 : cChk 419 gCT gRU gC419 0 gH419 3000 = true := by decide +kernel
end CkChk33
