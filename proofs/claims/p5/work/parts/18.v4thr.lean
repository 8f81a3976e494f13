section CkThr14
noncomputable def eQT : evM := (⟨"LeafVotesLaw", "tree", "(LLeafVotes;II[J)I"⟩, method_3_code, 5, some .int, 22, 4, 0, 0, eD179)
noncomputable def eQt : evM := (⟨"LeafVotes", "tree", "(II)I"⟩, prog_1_method_8_code, 3, some .int, 11, 3, 0, 0, eD180)
noncomputable def eQC : evM := (⟨"LeafVotesLaw", "cell", "(LLeafVotes;III[J)I"⟩, method_4_code, 6, some .int, 22, 5, 0, 0, eD182)
noncomputable def eQc' : evM := (⟨"LeafVotes", "cell", "(III)I"⟩, prog_1_method_10_code, 5, some .int, 11, 4, 0, 0, eD183)
noncomputable def eQK : evM := (⟨"LeafVotesLaw", "likely", "(LLeafVotes;III[J)I"⟩, method_5_code, 6, some .int, 22, 5, 0, 0, eD184)
noncomputable def eQk : evM := (⟨"LeafVotes", "likely", "(III)I"⟩, prog_1_method_36_code, 8, some .int, 11, 4, 0, 0, eD185)
/-- where the law calls them -/
def eCal (qh : evM) (pI nh hix pc : Nat) : Prop := Jvm.Cond.codeWith qh.1 qh.2.1 qh.2.2.1 qh.2.2.2.1 [(0, pI + 5, pI + 8, 13)] ∈ eGW ∧ Jvm.Cond.methodLink (eCn 13) hix qh.1 ∈ eGW ∧ Jvm.Cond.static qh.1 ∈ eGW ∧ Jvm.Cond.initialized qh.1.cls ∈ eGW ∧ (parseMethodDescriptor qh.1.desc).map (fun d => d.parameters.length) = some nh ∧ decode code pc = .ok (.invokestatic hix, 3)
set_option maxRecDepth 100000 in
theorem eHT : eHlp eQT eQt 180 3 5 7 4 := ⟨rfl, rfl, rfl, eD179_ok, rfl, rfl, rfl, rfl, by decide, by decide, eTb 1378 rfl rfl, eTb 1379 rfl rfl, eTb 1380 rfl rfl, by decide +kernel, eTb 1377 rfl rfl, eOkB_get eD179_ok 5, eOkB_get eD179_ok 13⟩
set_option maxRecDepth 100000 in
theorem eLT : eCal eQT 5 4 45 350 := ⟨eTb 1376 rfl rfl, eTb 1374 rfl rfl, eTb 1375 rfl rfl, eTb 0 rfl rfl, by decide +kernel, eOkB_get eDL_ok 350⟩
set_option maxRecDepth 100000 in
theorem eHC : eHlp eQC eQc' 183 4 7 15 5 := ⟨rfl, rfl, rfl, eD182_ok, rfl, rfl, rfl, rfl, by decide, by decide, eTb 1451 rfl rfl, eTb 1452 rfl rfl, eTb 1453 rfl rfl, by decide +kernel, eTb 1377 rfl rfl, eOkB_get eD182_ok 7, eOkB_get eD182_ok 15⟩
set_option maxRecDepth 100000 in
theorem eLC' : eCal eQC 7 5 51 396 := ⟨eTb 1450 rfl rfl, eTb 1448 rfl rfl, eTb 1449 rfl rfl, eTb 0 rfl rfl, by decide +kernel, eOkB_get eDL_ok 396⟩
set_option maxRecDepth 100000 in
theorem eHK : eHlp eQK eQk 185 4 7 19 5 := ⟨rfl, rfl, rfl, eD184_ok, rfl, rfl, rfl, rfl, by decide, by decide, eTb 1460 rfl rfl, eTb 1461 rfl rfl, eTb 1462 rfl rfl, by decide +kernel, eTb 1377 rfl rfl, eOkB_get eD184_ok 7, eOkB_get eD184_ok 15⟩
set_option maxRecDepth 100000 in
theorem eLK : eCal eQK 7 5 113 1026 := ⟨eTb 1459 rfl rfl, eTb 1457 rfl rfl, eTb 1458 rfl rfl, eTb 0 rfl rfl, by decide +kernel, eOkB_get eDL_ok 1026⟩
end CkThr14
