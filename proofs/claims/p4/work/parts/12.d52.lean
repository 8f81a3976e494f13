section CkChk52
noncomputable def gH827 : sHt := ([], [], [(0, [[264]]), (25, [[269]]), (30, [[270]]), (35, [[271]]), (41, [[272]]), (47, [[273], [274]])], [], [(22, [366]), (27, [367]), (32, [368]), (38, [369]), (44, [370])], [])
theorem gK827 : cChk 827 gCT gRU gC827 0 gH827 3000 = true := by decide +kernel
end CkChk52
