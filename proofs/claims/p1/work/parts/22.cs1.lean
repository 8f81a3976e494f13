section EvCs1
set_option maxRecDepth 10000000 in
theorem eCs_6 : eRun 60000 20 304 eKe 484 eL2 [] eG1 = true := by decide +kernel
set_option maxRecDepth 10000000 in
theorem eCs_7 : eRun 60000 20 304 eKe 521 eL2 [] eG1 = true := by decide +kernel
set_option maxRecDepth 10000000 in
theorem eCs_8 : eRun 60000 20 304 eKe 558 eL2 [] eG1 = true := by decide +kernel
set_option maxRecDepth 10000000 in
theorem eCs_9 : eRun 60000 20 304 eKe 583 eL2 [] eG1 = true := by decide +kernel
end EvCs1
