section EvCs4
set_option maxRecDepth 10000000 in
theorem eCs_21 : eRun 60000 20 304 eKe 1142 eL2 [] eG1 = true := by decide +kernel
set_option maxRecDepth 10000000 in
theorem eCs_22 : eRun 60000 20 304 eKe 1191 eL2 [] eG1 = true := by decide +kernel
set_option maxRecDepth 10000000 in
theorem eCs_23 : eRun 60000 20 304 eKe 1204 eL2 [] eG1 = true := by decide +kernel
set_option maxRecDepth 10000000 in
theorem eCs_24 : eRun 60000 20 304 eKe 1217 eL2 [] eG1 = true := by decide +kernel
end EvCs4
