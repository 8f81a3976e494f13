section EvCs5
set_option maxRecDepth 10000000 in
theorem eCs_25 : eRun 60000 20 304 eKe 1254 eL2 [] eG1 = true := by decide +kernel
set_option maxRecDepth 10000000 in
theorem eCs_26 : eRun 60000 20 304 eKe 1267 eL2 [] eG1 = true := by decide +kernel
set_option maxRecDepth 10000000 in
theorem eCs_27 : eRun 60000 20 304 eKe 1328 eL2 [] eG1 = true := by decide +kernel
set_option maxRecDepth 10000000 in
theorem eCs_28 : eRun 60000 20 304 eKe 1365 eL2 [] eG1 = true := by decide +kernel
set_option maxRecDepth 10000000 in
theorem eCs_29 : eRun 60000 20 304 eKe 1426 eL2 [] eG1 = true := by decide +kernel
end EvCs5
