section CkChk61
noncomputable def gH1125 : sHt := ([], [], [], [], [(3, [1124])], [])
theorem gK1125 : cChk 1125 gCT gRU gC1125 0 gH1125 3000 = true := by decide +kernel
noncomputable def gH1126 : sHt := ([], [], [(8, [[638, 639], [640]])], [], [(10, [720])], [])
theorem gK1126 : cChk 1126 gCT gRU gC1126 0 gH1126 3000 = true := by decide +kernel
noncomputable def gH1127 : sHt := ([], [], [], [], [(3, [1126])], [])
theorem gK1127 : cChk 1127 gCT gRU gC1127 0 gH1127 3000 = true := by decide +kernel
noncomputable def gH1128 : sHt := ([], [], [(34, [[642, 645], [643, 644]]), (42, [[646]])], [], [(28, [748]), (36, [720])], [])
theorem gK1128 : cChk 1128 gCT gRU gC1128 0 gH1128 3000 = true := by decide +kernel
noncomputable def gH1129 : sHt := ([], [], [(11, [[659, 660, 661, 662, 663, 664, 665, 666, 667, 668], [669]])], [], [(3, [1128]), (12, [1053])], [])
theorem gK1129 : cChk 1129 gCT gRU gC1129 0 gH1129 3000 = true := by decide +kernel
noncomputable def gH1130 : sHt := ([], [], [(0, [[618]]), (21, [[592, 593], [594, 595], [596, 597]])], [], [], [])
theorem gK1130 : cChk 1130 gCT gRU gC1130 0 gH1130 3000 = true := by decide +kernel
noncomputable def gH1131 : sHt := ([], [], [(0, [[619]]), (21, [[592, 593], [594, 595], [596, 597]])], [], [], [])
theorem gK1131 : cChk 1131 gCT gRU gC1131 0 gH1131 3000 = true := by decide +kernel
noncomputable def gH1132 : sHt := ([], [], [(0, [[620]]), (21, [[592, 593], [594, 595], [596, 597]])], [], [], [])
theorem gK1132 : cChk 1132 gCT gRU gC1132 0 gH1132 3000 = true := by decide +kernel
noncomputable def gH1133 : sHt := ([], [], [(0, [[621]]), (21, [[592, 593], [594, 595], [596, 597]])], [], [], [])
theorem gK1133 : cChk 1133 gCT gRU gC1133 0 gH1133 3000 = true := by decide +kernel
noncomputable def gH1134 : sHt := ([], [], [(0, [[622]]), (21, [[592, 593], [594, 595], [596, 597]])], [], [], [])
theorem gK1134 : cChk 1134 gCT gRU gC1134 0 gH1134 3000 = true := by decide +kernel
noncomputable def gH1135 : sHt := ([], [], [], [], [(4, [1130]), (18, [1131]), (32, [1132]), (46, [1133]), (60, [1134])], [])
theorem gK1135 : cChk 1135 gCT gRU gC1135 0 gH1135 3000 = true := by decide +kernel
noncomputable def gH1136 : sHt := ([], [], [(15, [[623, 624, 629, 630], [625, 626]])], [], [(2, [1135]), (17, [720])], [])
theorem gK1136 : cChk 1136 gCT gRU gC1136 0 gH1136 3000 = true := by decide +kernel
noncomputable def gH1137 : sHt := ([], [], [(0, [[618]]), (21, [[592, 593], [594, 595], [596, 597]])], [], [], [])
theorem gK1137 : cChk 1137 gCT gRU gC1137 0 gH1137 3000 = true := by decide +kernel
noncomputable def gH1138 : sHt := ([], [], [(0, [[619]]), (21, [[592, 593], [594, 595], [596, 597]])], [], [], [])
theorem gK1138 : cChk 1138 gCT gRU gC1138 0 gH1138 3000 = true := by decide +kernel
noncomputable def gH1139 : sHt := ([], [], [(0, [[620]]), (21, [[592, 593], [594, 595], [596, 597]])], [], [], [])
theorem gK1139 : cChk 1139 gCT gRU gC1139 0 gH1139 3000 = true := by decide +kernel
noncomputable def gH1140 : sHt := ([], [], [(0, [[621]]), (21, [[592, 593], [594, 595], [596, 597]])], [], [], [])
theorem gK1140 : cChk 1140 gCT gRU gC1140 0 gH1140 3000 = true := by decide +kernel
noncomputable def gH1141 : sHt := ([], [], [(0, [[622]]), (21, [[592, 593], [594, 595], [596, 597]])], [], [], [])
theorem gK1141 : cChk 1141 gCT gRU gC1141 0 gH1141 3000 = true := by decide +kernel
noncomputable def gH1142 : sHt := ([], [], [], [], [(4, [1137]), (18, [1138]), (32, [1139]), (46, [1140]), (60, [1141])], [])
theorem gK1142 : cChk 1142 gCT gRU gC1142 0 gH1142 3000 = true := by decide +kernel
noncomputable def gH1143 : sHt := ([], [], [(15, [[623, 624, 629, 630], [625]])], [], [(2, [1142]), (17, [720])], [])
theorem gK1143 : cChk 1143 gCT gRU gC1143 0 gH1143 3000 = true := by decide +kernel
noncomputable def gH1144 : sHt := ([], [], [(0, [[618]]), (21, [[592, 593], [594, 595], [596, 597]])], [], [], [])
theorem gK1144 : cChk 1144 gCT gRU gC1144 0 gH1144 3000 = true := by decide +kernel
noncomputable def gH1145 : sHt := ([], [], [(0, [[619]]), (21, [[592, 593], [594, 595], [596, 597]])], [], [], [])
theorem gK1145 : cChk 1145 gCT gRU gC1145 0 gH1145 3000 = true := by decide +kernel
noncomputable def gH1146 : sHt := ([], [], [(0, [[620]]), (21, [[592, 593], [594, 595], [596, 597]])], [], [], [])
theorem gK1146 : cChk 1146 gCT gRU gC1146 0 gH1146 3000 = true := by decide +kernel
noncomputable def gH1147 : sHt := ([], [], [(0, [[621]]), (21, [[592, 593], [594, 595], [596, 597]])], [], [], [])
theorem gK1147 : cChk 1147 gCT gRU gC1147 0 gH1147 3000 = true := by decide +kernel
noncomputable def gH1148 : sHt := ([], [], [(0, [[622]]), (21, [[592, 593], [594, 595], [596, 597]])], [], [], [])
theorem gK1148 : cChk 1148 gCT gRU gC1148 0 gH1148 3000 = true := by decide +kernel
noncomputable def gH1149 : sHt := ([], [], [], [], [(4, [1144]), (18, [1145]), (32, [1146]), (46, [1147]), (60, [1148])], [])
theorem gK1149 : cChk 1149 gCT gRU gC1149 0 gH1149 3000 = true := by decide +kernel
noncomputable def gH1150 : sHt := ([], [], [(15, [[623, 624, 629, 630], [625, 626]])], [], [(2, [1149]), (17, [720])], [])
theorem gK1150 : cChk 1150 gCT gRU gC1150 0 gH1150 3000 = true := by decide +kernel
noncomputable def gH1151 : sHt := ([], [], [(0, [[853]]), (85, [[859, 863, 864, 865, 866]]), (100, [[867]]), (112, [[868, 869, 870, 871]]), (129, [[887]]), (161, [[888]]), (172, [[876]]), (192, [[877]]), (238, [[872]]), (268, [[873]]), (288, [[874], [875]])], [], [(11, [1060]), (25, [1061]), (39, [1062]), (53, [1063]), (67, [1064]), (85, [720]), (100, [720]), (112, [1053]), (120, [1112, 1119, 1136, 1143, 1150]), (129, [1121, 1123, 1125, 1127, 1129]), (172, [1086, 1088, 1090, 1092, 1094]), (208, [1096, 1099, 1101, 1103, 1105]), (238, [1066, 1078, 1080, 1082, 1084]), (268, [1068, 1070, 1072, 1074, 1076])], [])
theorem gK1151 : cChk 1151 gCT gRU gC1151 2 gH1151 3000 = true := by decide +kernel
noncomputable def gH1152 : sHt := ([], [], [(8, [[814, 815, 816, 817, 824, 827], [818, 819, 820]])], [], [(2, [955]), (10, [720])], [])
theorem gK1152 : cChk 1152 gCT gRU gC1152 0 gH1152 3000 = true := by decide +kernel
noncomputable def gH1153 : sHt := ([], [], [(8, [[814, 815, 816, 817, 824, 827], [818, 819]])], [], [(2, [953]), (10, [720])], [])
theorem gK1153 : cChk 1153 gCT gRU gC1153 0 gH1153 3000 = true := by decide +kernel
noncomputable def gH1154 : sHt := ([], [], [(8, [[814, 815, 816, 817, 824, 827], [818, 819, 820, 821, 822, 823]]), (14, [[825], [826]])], [], [(2, [951]), (10, [720]), (15, [1053])], [])
theorem gK1154 : cChk 1154 gCT gRU gC1154 0 gH1154 3000 = true := by decide +kernel
noncomputable def gH1155 : sHt := ([], [], [(8, [[814, 815, 816, 817, 824, 827], [818]])], [], [(2, [949]), (10, [720])], [])
theorem gK1155 : cChk 1155 gCT gRU gC1155 0 gH1155 3000 = true := by decide +kernel
noncomputable def gH1156 : sHt := ([], [], [(8, [[814, 815, 816, 817, 824, 827], [818, 819, 820, 821]])], [], [(2, [947]), (10, [720])], [])
theorem gK1156 : cChk 1156 gCT gRU gC1156 0 gH1156 3000 = true := by decide +kernel
noncomputable def gH1157 : sHt := ([], [], [(0, [[854]]), (21, [[592, 593], [594, 595], [596, 597]])], [], [], [])
theorem gK1157 : cChk 1157 gCT gRU gC1157 0 gH1157 3000 = true := by decide +kernel
noncomputable def gH1158 : sHt := ([], [], [(0, [[855]]), (21, [[592, 593], [594, 595], [596, 597]])], [], [], [])
theorem gK1158 : cChk 1158 gCT gRU gC1158 0 gH1158 3000 = true := by decide +kernel
noncomputable def gH1159 : sHt := ([], [], [(0, [[856]]), (21, [[592, 593], [594, 595], [596, 597]])], [], [], [])
theorem gK1159 : cChk 1159 gCT gRU gC1159 0 gH1159 3000 = true := by decide +kernel
noncomputable def gH1160 : sHt := ([], [], [(0, [[857]]), (21, [[592, 593], [594, 595], [596, 597]])], [], [], [])
theorem gK1160 : cChk 1160 gCT gRU gC1160 0 gH1160 3000 = true := by decide +kernel
end CkChk61
