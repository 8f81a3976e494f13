section EvCst
set_option maxRecDepth 10000000 in
theorem eCs_4 : eRunS eQL 350 (eKH (eRun 60000 20 304 eKe) eQT 20000 18 180 3 3 5 4 350) (fun _ _ => false) 40 336 eL2 [] eG1 = true := by decide +kernel
set_option maxRecDepth 10000000 in
theorem eCs_5 : eRunS eQL 424 (eKH (eRun 60000 20 304 eKe) eQC 20000 18 183 4 5 7 5 424) (fun _ _ => false) 60 404 eL2 [] eG1 = true := by decide +kernel
set_option maxRecDepth 10000000 in
theorem eCs_20 : eRunS eQL 1082 (eKH (eRun 60000 20 304 eKe) eQK 20000 18 185 4 8 7 5 1082) (fun _ _ => false) 60 1062 eL2 [] eG1 = true := by decide +kernel
end EvCst
