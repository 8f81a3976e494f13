section EvCs3
set_option maxRecDepth 10000000 in
theorem eCs_15 : eRun 60000 20 304 eKe 781 eL2 [] eG1 = true := by decide +kernel
set_option maxRecDepth 10000000 in
theorem eCs_16 : eRun 60000 20 304 eKe 842 eL2 [] eG1 = true := by decide +kernel
set_option maxRecDepth 10000000 in
theorem eCs_17 : eRun 60000 20 304 eKe 903 eL2 [] eG1 = true := by decide +kernel
set_option maxRecDepth 10000000 in
theorem eCs_18 : eRun 60000 20 304 eKe 964 eL2 [] eG1 = true := by decide +kernel
set_option maxRecDepth 10000000 in
theorem eCs_19 : eRun 60000 20 304 eKe 1013 eL2 [] eG1 = true := by decide +kernel
end EvCs3
