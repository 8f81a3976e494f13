section CkSp1164_0
theorem gK1164_0 : cRun 1164 gCT gRU gC1164.2.1 gC1164.2.2.2.1 gC1164.2.2.2.2 gC1164.2.2.1.1.1 gC1164.1 gH1164 (some gH1164t0.2.2) 3000 true gH1164t0.1 gH1164t0.2.1.1 gH1164t0.2.1.2.1 [] gH1164t0.2.1.2.2 = true := by decide +kernel
theorem gK1164_1 : cRun 1164 gCT gRU gC1164.2.1 gC1164.2.2.2.1 gC1164.2.2.2.2 gC1164.2.2.1.1.1 gC1164.1 gH1164 (some gH1164t1.2.2) 3000 true gH1164t1.1 gH1164t1.2.1.1 gH1164t1.2.1.2.1 [] gH1164t1.2.1.2.2 = true := by decide +kernel
theorem gK1164_2 : cRun 1164 gCT gRU gC1164.2.1 gC1164.2.2.2.1 gC1164.2.2.2.2 gC1164.2.2.1.1.1 gC1164.1 gH1164 (some gH1164t2.2.2) 3000 true gH1164t2.1 gH1164t2.2.1.1 gH1164t2.2.1.2.1 [] gH1164t2.2.1.2.2 = true := by decide +kernel
theorem gK1164_3 : cRun 1164 gCT gRU gC1164.2.1 gC1164.2.2.2.1 gC1164.2.2.2.2 gC1164.2.2.1.1.1 gC1164.1 gH1164 (some gH1164t3.2.2) 3000 true gH1164t3.1 gH1164t3.2.1.1 gH1164t3.2.1.2.1 [] gH1164t3.2.1.2.2 = true := by decide +kernel
end CkSp1164_0
