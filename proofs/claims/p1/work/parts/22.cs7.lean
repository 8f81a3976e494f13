section EvCs7
set_option maxRecDepth 10000000 in
theorem eCs_35 : eRun 60000 20 304 eKe 1600 eL2 [] eG1 = true := by decide +kernel
set_option maxRecDepth 10000000 in
theorem eCs_36 : eRun 60000 20 304 eKe 1625 eL2 [] eG1 = true := by decide +kernel
set_option maxRecDepth 10000000 in
theorem eCs_37 : eRun 60000 20 304 eKe 1650 eL2 [] eG1 = true := by decide +kernel
set_option maxRecDepth 10000000 in
theorem eCs_38 : eRun 60000 20 304 eKe 1675 eL2 [] eG1 = true := by decide +kernel
end EvCs7
