section EvCs0
set_option maxRecDepth 10000000 in
theorem eCs_0 : eRun 60000 20 304 eKe 212 eL2 [] eG1 = true := by decide +kernel
set_option maxRecDepth 10000000 in
theorem eCs_1 : eRun 60000 20 304 eKe 285 eL2 [] eG1 = true := by decide +kernel
set_option maxRecDepth 10000000 in
theorem eCs_2 : eRun 60000 20 304 eKe 310 eL2 [] eG1 = true := by decide +kernel
set_option maxRecDepth 10000000 in
theorem eCs_3 : eRun 60000 20 304 eKe 323 eL2 [] eG1 = true := by decide +kernel
end EvCs0
