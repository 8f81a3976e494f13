section CkSp1164_4
theorem gK1164_4 : cRun 1164 gCT gRU gC1164.2.1 gC1164.2.2.2.1 gC1164.2.2.2.2 gC1164.2.2.1.1.1 gC1164.1 gH1164 (some gH1164t4.2.2) 3000 true gH1164t4.1 gH1164t4.2.1.1 gH1164t4.2.1.2.1 [] gH1164t4.2.1.2.2 = true := by decide +kernel
theorem gK1164_5 : cRun 1164 gCT gRU gC1164.2.1 gC1164.2.2.2.1 gC1164.2.2.2.2 gC1164.2.2.1.1.1 gC1164.1 gH1164 (some gH1164t5.2.2) 3000 true gH1164t5.1 gH1164t5.2.1.1 gH1164t5.2.1.2.1 [] gH1164t5.2.1.2.2 = true := by decide +kernel
theorem gK1164_6 : cRun 1164 gCT gRU gC1164.2.1 gC1164.2.2.2.1 gC1164.2.2.2.2 gC1164.2.2.1.1.1 gC1164.1 gH1164 (some gH1164t6.2.2) 3000 true gH1164t6.1 gH1164t6.2.1.1 gH1164t6.2.1.2.1 [] gH1164t6.2.1.2.2 = true := by decide +kernel
theorem gK1164_7 : cRun 1164 gCT gRU gC1164.2.1 gC1164.2.2.2.1 gC1164.2.2.2.2 gC1164.2.2.1.1.1 gC1164.1 gH1164 (some gH1164t7.2.2) 3000 true gH1164t7.1 gH1164t7.2.1.1 gH1164t7.2.1.2.1 [] gH1164t7.2.1.2.2 = true := by decide +kernel
end CkSp1164_4
