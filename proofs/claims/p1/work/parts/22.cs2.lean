section EvCs2
set_option maxRecDepth 10000000 in
theorem eCs_10 : eRun 60000 20 304 eKe 620 eL2 [] eG1 = true := by decide +kernel
set_option maxRecDepth 10000000 in
theorem eCs_11 : eRun 60000 20 304 eKe 669 eL2 [] eG1 = true := by decide +kernel
set_option maxRecDepth 10000000 in
theorem eCs_12 : eRun 60000 20 304 eKe 694 eL2 [] eG1 = true := by decide +kernel
set_option maxRecDepth 10000000 in
theorem eCs_13 : eRun 60000 20 304 eKe 731 eL2 [] eG1 = true := by decide +kernel
set_option maxRecDepth 10000000 in
theorem eCs_14 : eRun 60000 20 304 eKe 768 eL2 [] eG1 = true := by decide +kernel
end EvCs2
