section EvRun0
set_option maxRecDepth 10000000 in
theorem eRun0 : eRun 40000 22 303 eK0 0 eL0 [] eG0 = true := by decide +kernel
end EvRun0
