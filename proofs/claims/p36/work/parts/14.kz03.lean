section CkSp1164_8
theorem gK1164_8 : cRun 1164 gCT gRU gC1164.2.1 gC1164.2.2.2.1 gC1164.2.2.2.2 gC1164.2.2.1.1.1 gC1164.1 gH1164 (some gH1164t8.2.2) 3000 true gH1164t8.1 gH1164t8.2.1.1 gH1164t8.2.1.2.1 [] gH1164t8.2.1.2.2 = true := by decide +kernel
theorem gK1164_9 : cRun 1164 gCT gRU gC1164.2.1 gC1164.2.2.2.1 gC1164.2.2.2.2 gC1164.2.2.1.1.1 gC1164.1 gH1164 (some gH1164t9.2.2) 3000 true gH1164t9.1 gH1164t9.2.1.1 gH1164t9.2.1.2.1 [] gH1164t9.2.1.2.2 = true := by decide +kernel
theorem gK1164 : cChk 1164 gCT gRU gC1164 4 gH1164 3000 = true := cChk_sp (by decide +kernel) gK1164p (show cTs 1164 gCT gRU gC1164 gH1164 3000 [gH1164t0, gH1164t1, gH1164t2, gH1164t3, gH1164t4, gH1164t5, gH1164t6, gH1164t7, gH1164t8, gH1164t9] = true from cTs_c gK1164_0 (cTs_c gK1164_1 (cTs_c gK1164_2 (cTs_c gK1164_3 (cTs_c gK1164_4 (cTs_c gK1164_5 (cTs_c gK1164_6 (cTs_c gK1164_7 (cTs_c gK1164_8 (cTs_c gK1164_9 (rfl)))))))))))
end CkSp1164_8
