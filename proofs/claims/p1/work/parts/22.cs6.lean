section EvCs6
set_option maxRecDepth 10000000 in
theorem eCs_30 : eRun 60000 20 304 eKe 1439 eL2 [] eG1 = true := by decide +kernel
set_option maxRecDepth 10000000 in
theorem eCs_31 : eRun 60000 20 304 eKe 1476 eL2 [] eG1 = true := by decide +kernel
set_option maxRecDepth 10000000 in
theorem eCs_32 : eRun 60000 20 304 eKe 1537 eL2 [] eG1 = true := by decide +kernel
set_option maxRecDepth 10000000 in
theorem eCs_33 : eRun 60000 20 304 eKe 1562 eL2 [] eG1 = true := by decide +kernel
set_option maxRecDepth 10000000 in
theorem eCs_34 : eRun 60000 20 304 eKe 1587 eL2 [] eG1 = true := by decide +kernel
end EvCs6
