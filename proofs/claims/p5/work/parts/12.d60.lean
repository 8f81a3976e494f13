section CkChk60
noncomputable def gH1054 : sHt := ([], [], [(0, [[854]]), (21, [[592, 593], [594, 595], [596, 597]])], [], [], [])
theorem gK1054 : cChk 1054 gCT gRU gC1054 0 gH1054 3000 = true := by decide +kernel
noncomputable def gH1055 : sHt := ([], [], [(0, [[855]]), (21, [[592, 593], [594, 595], [596, 597]])], [], [], [])
theorem gK1055 : cChk 1055 gCT gRU gC1055 0 gH1055 3000 = true := by decide +kernel
noncomputable def gH1056 : sHt := ([], [], [(0, [[856]]), (21, [[592, 593], [594, 595], [596, 597]])], [], [], [])
theorem gK1056 : cChk 1056 gCT gRU gC1056 0 gH1056 3000 = true := by decide +kernel
noncomputable def gH1057 : sHt := ([], [], [(0, [[857]]), (21, [[592, 593], [594, 595], [596, 597]])], [], [], [])
theorem gK1057 : cChk 1057 gCT gRU gC1057 0 gH1057 3000 = true := by decide +kernel
noncomputable def gH1058 : sHt := ([], [], [(0, [[858]]), (21, [[592, 593], [594, 595], [596, 597]])], [], [], [])
theorem gK1058 : cChk 1058 gCT gRU gC1058 0 gH1058 3000 = true := by decide +kernel
noncomputable def gH1059 : sHt := ([], [], [(0, [[853]]), (85, [[859]])], [], [(11, [1054]), (25, [1055]), (39, [1056]), (53, [1057]), (67, [1058]), (85, [720])], [])
theorem gK1059 : cChk 1059 gCT gRU gC1059 2 gH1059 3000 = true := by decide +kernel
noncomputable def gH1060 : sHt := ([], [], [(0, [[854]]), (17, [[608], [609], [610]]), (21, [[592, 593], [594, 595], [596, 597]])], [], [], [])
theorem gK1060 : cChk 1060 gCT gRU gC1060 0 gH1060 3000 = true := by decide +kernel
noncomputable def gH1061 : sHt := ([], [], [(0, [[855]]), (17, [[608], [609], [610]]), (21, [[592, 593], [594, 595], [596, 597]])], [], [], [])
theorem gK1061 : cChk 1061 gCT gRU gC1061 0 gH1061 3000 = true := by decide +kernel
noncomputable def gH1062 : sHt := ([], [], [(0, [[856]]), (17, [[608], [609], [610]]), (21, [[592, 593], [594, 595], [596, 597]])], [], [], [])
theorem gK1062 : cChk 1062 gCT gRU gC1062 0 gH1062 3000 = true := by decide +kernel
noncomputable def gH1063 : sHt := ([], [], [(0, [[857]]), (17, [[608], [609], [610]]), (21, [[592, 593], [594, 595], [596, 597]])], [], [], [])
theorem gK1063 : cChk 1063 gCT gRU gC1063 0 gH1063 3000 = true := by decide +kernel
noncomputable def gH1064 : sHt := ([], [], [(0, [[858]]), (17, [[608], [609], [610]]), (21, [[592, 593], [594, 595], [596, 597]])], [], [], [])
theorem gK1064 : cChk 1064 gCT gRU gC1064 0 gH1064 3000 = true := by decide +kernel
noncomputable def gH1065 : sHt := ([], [], [(34, [[642, 645], [643, 644]]), (42, [[646]])], [], [(28, [748]), (36, [720])], [])
theorem gK1065 : cChk 1065 gCT gRU gC1065 0 gH1065 3000 = true := by decide +kernel
noncomputable def gH1066 : sHt := ([], [], [(11, [[659, 660, 661, 662, 663, 664, 665, 666, 667, 668], [669, 670, 671]])], [], [(3, [1065]), (12, [1053])], [])
theorem gK1066 : cChk 1066 gCT gRU gC1066 0 gH1066 3000 = true := by decide +kernel
noncomputable def gH1067 : sHt := ([], [], [(8, [[638, 639], [640, 641]])], [], [(10, [720])], [])
theorem gK1067 : cChk 1067 gCT gRU gC1067 0 gH1067 3000 = true := by decide +kernel
noncomputable def gH1068 : sHt := ([], [], [], [], [(3, [1067])], [])
theorem gK1068 : cChk 1068 gCT gRU gC1068 0 gH1068 3000 = true := by decide +kernel
noncomputable def gH1069 : sHt := ([], [], [(8, [[638, 639], [640]])], [], [(10, [720])], [])
theorem gK1069 : cChk 1069 gCT gRU gC1069 0 gH1069 3000 = true := by decide +kernel
noncomputable def gH1070 : sHt := ([], [], [], [], [(3, [1069])], [])
theorem gK1070 : cChk 1070 gCT gRU gC1070 0 gH1070 3000 = true := by decide +kernel
noncomputable def gH1071 : sHt := ([], [], [(8, [[638, 639], [640, 641]])], [], [(10, [720])], [])
theorem gK1071 : cChk 1071 gCT gRU gC1071 0 gH1071 3000 = true := by decide +kernel
noncomputable def gH1072 : sHt := ([], [], [], [], [(3, [1071])], [])
theorem gK1072 : cChk 1072 gCT gRU gC1072 0 gH1072 3000 = true := by decide +kernel
noncomputable def gH1073 : sHt := ([], [], [(8, [[638, 639], [640]])], [], [(10, [720])], [])
theorem gK1073 : cChk 1073 gCT gRU gC1073 0 gH1073 3000 = true := by decide +kernel
noncomputable def gH1074 : sHt := ([], [], [], [], [(3, [1073])], [])
theorem gK1074 : cChk 1074 gCT gRU gC1074 0 gH1074 3000 = true := by decide +kernel
noncomputable def gH1075 : sHt := ([], [], [(34, [[642, 645], [643, 644]]), (42, [[646]])], [], [(28, [748]), (36, [720])], [])
theorem gK1075 : cChk 1075 gCT gRU gC1075 0 gH1075 3000 = true := by decide +kernel
noncomputable def gH1076 : sHt := ([], [], [(11, [[659, 660, 661, 662, 663, 664, 665, 666, 667, 668], [669, 670, 671, 672]])], [], [(3, [1075]), (12, [1053])], [])
theorem gK1076 : cChk 1076 gCT gRU gC1076 0 gH1076 3000 = true := by decide +kernel
noncomputable def gH1077 : sHt := ([], [], [(8, [[638, 639], [640]])], [], [(10, [720])], [])
theorem gK1077 : cChk 1077 gCT gRU gC1077 0 gH1077 3000 = true := by decide +kernel
noncomputable def gH1078 : sHt := ([], [], [], [], [(3, [1077])], [])
theorem gK1078 : cChk 1078 gCT gRU gC1078 0 gH1078 3000 = true := by decide +kernel
noncomputable def gH1079 : sHt := ([], [], [(8, [[638, 639], [640, 641]])], [], [(10, [720])], [])
theorem gK1079 : cChk 1079 gCT gRU gC1079 0 gH1079 3000 = true := by decide +kernel
noncomputable def gH1080 : sHt := ([], [], [], [], [(3, [1079])], [])
theorem gK1080 : cChk 1080 gCT gRU gC1080 0 gH1080 3000 = true := by decide +kernel
noncomputable def gH1081 : sHt := ([], [], [(8, [[638, 639], [640]])], [], [(10, [720])], [])
theorem gK1081 : cChk 1081 gCT gRU gC1081 0 gH1081 3000 = true := by decide +kernel
noncomputable def gH1082 : sHt := ([], [], [], [], [(3, [1081])], [])
theorem gK1082 : cChk 1082 gCT gRU gC1082 0 gH1082 3000 = true := by decide +kernel
noncomputable def gH1083 : sHt := ([], [], [(8, [[638, 639], [640, 641]])], [], [(10, [720])], [])
theorem gK1083 : cChk 1083 gCT gRU gC1083 0 gH1083 3000 = true := by decide +kernel
noncomputable def gH1084 : sHt := ([], [], [], [], [(3, [1083])], [])
theorem gK1084 : cChk 1084 gCT gRU gC1084 0 gH1084 3000 = true := by decide +kernel
noncomputable def gH1085 : sHt := ([], [], [(34, [[642, 645], [643, 644]]), (42, [[646]])], [], [(28, [748]), (36, [720])], [])
theorem gK1085 : cChk 1085 gCT gRU gC1085 0 gH1085 3000 = true := by decide +kernel
noncomputable def gH1086 : sHt := ([], [], [(11, [[659, 660, 661, 662, 663, 664, 665, 666, 667, 668], [669, 670]])], [], [(3, [1085]), (12, [1053])], [])
theorem gK1086 : cChk 1086 gCT gRU gC1086 0 gH1086 3000 = true := by decide +kernel
noncomputable def gH1087 : sHt := ([], [], [(8, [[638, 639], [640]])], [], [(10, [720])], [])
theorem gK1087 : cChk 1087 gCT gRU gC1087 0 gH1087 3000 = true := by decide +kernel
noncomputable def gH1088 : sHt := ([], [], [], [], [(3, [1087])], [])
theorem gK1088 : cChk 1088 gCT gRU gC1088 0 gH1088 3000 = true := by decide +kernel
noncomputable def gH1089 : sHt := ([], [], [(8, [[638, 639], [640, 641]])], [], [(10, [720])], [])
theorem gK1089 : cChk 1089 gCT gRU gC1089 0 gH1089 3000 = true := by decide +kernel
noncomputable def gH1090 : sHt := ([], [], [], [], [(3, [1089])], [])
theorem gK1090 : cChk 1090 gCT gRU gC1090 0 gH1090 3000 = true := by decide +kernel
noncomputable def gH1091 : sHt := ([], [], [(8, [[638, 639], [640]])], [], [(10, [720])], [])
theorem gK1091 : cChk 1091 gCT gRU gC1091 0 gH1091 3000 = true := by decide +kernel
noncomputable def gH1092 : sHt := ([], [], [], [], [(3, [1091])], [])
theorem gK1092 : cChk 1092 gCT gRU gC1092 0 gH1092 3000 = true := by decide +kernel
noncomputable def gH1093 : sHt := ([], [], [(8, [[638, 639], [640, 641]])], [], [(10, [720])], [])
theorem gK1093 : cChk 1093 gCT gRU gC1093 0 gH1093 3000 = true := by decide +kernel
noncomputable def gH1094 : sHt := ([], [], [], [], [(3, [1093])], [])
theorem gK1094 : cChk 1094 gCT gRU gC1094 0 gH1094 3000 = true := by decide +kernel
noncomputable def gH1095 : sHt := ([(16, ((7, [(0, .ofNat 0, .ofNat 940), (1, .ofNat 0, .ofNat 940), (2, .ofNat 0, .ofNat 940), (3, .ofNat 0, .ofNat 7), (4, .ofNat 0, .ofNat 41), (5, .negSucc 2147483647, .ofNat 2147483647), (6, .ofNat 0, .ofNat 30)], [], []), [(94, .ofNat 273, []), (1, .ofNat 0, []), (1, .ofNat 0, [(.ofNat 1, 6)])], ([((78, .ofNat 273, []), (.ofNat 4, []), 1, .ofNat 0, [(.ofNat 1, 1)]), ((78, .ofNat 273, []), (.ofNat 12, []), 1, .ofNat 0, [(.ofNat 1, 0)]), ((78, .ofNat 273, []), (.ofNat 11, []), 1, .ofNat 2, [])], [(250, [(.ofNat 0, [(.ofNat 1, 2)]), (.ofNat 0, [(.ofNat 1, 3)]), (.ofNat 0, [(.ofNat 1, 4)]), (.ofNat 2, []), (.ofNat 0, [(.ofNat 1, 0)]), (.ofNat 0, [(.ofNat 1, 1)]), (.ofNat 0, [(.ofNat 1, 5)])]), (132, [])])), (.ofNat 30, [(.negSucc 0, 6)]))], [(16, false)], [(14, [[706]]), (22, [[707]]), (46, [[708, 709, 710, 711]]), (52, [[712], [713, 714, 715, 716], [717, 718]])], [], [], [])
theorem gK1095 : cChk 1095 gCT gRU gC1095 2 gH1095 3000 = true := by decide +kernel
noncomputable def gH1096 : sHt := ([], [], [(7, [[719, 720, 724], [721, 722]])], [], [(1, [1095]), (9, [720])], [])
theorem gK1096 : cChk 1096 gCT gRU gC1096 0 gH1096 3000 = true := by decide +kernel
noncomputable def gH1097 : sHt := ([(16, ((9, [(0, .ofNat 0, .ofNat 940), (1, .ofNat 0, .ofNat 940), (2, .ofNat 0, .ofNat 940), (3, .ofNat 0, .ofNat 7), (4, .ofNat 0, .ofNat 41), (5, .negSucc 0, .ofNat 29), (6, .ofNat 0, .ofNat 1), (7, .ofNat 0, .ofNat 30)], [], []), [(94, .ofNat 273, []), (1, .ofNat 0, [(.ofNat 1, 6)]), (1, .ofNat 0, [(.ofNat 1, 7)])], ([((78, .ofNat 273, []), (.ofNat 17, []), 5, .ofNat 0, [(.ofNat 1, 8)]), ((78, .ofNat 273, []), (.ofNat 4, []), 1, .ofNat 0, [(.ofNat 1, 1)]), ((78, .ofNat 273, []), (.ofNat 12, []), 1, .ofNat 0, [(.ofNat 1, 0)]), ((78, .ofNat 273, []), (.ofNat 11, []), 1, .ofNat 1, [])], [(250, [(.ofNat 0, [(.ofNat 1, 2)]), (.ofNat 0, [(.ofNat 1, 3)]), (.ofNat 0, [(.ofNat 1, 4)]), (.ofNat 1, []), (.ofNat 0, [(.ofNat 1, 0)]), (.ofNat 0, [(.ofNat 1, 1)]), (.ofNat 0, [(.ofNat 1, 5)])]), (131, [(.ofNat 0, [(.ofNat 1, 0)]), (.ofNat 0, [(.ofNat 1, 1)])]), (132, []), (133, [(.ofNat 0, [(.ofNat 1, 7)]), (.ofNat 0, [(.ofNat 1, 6)]), (.ofNat 0, [(.ofNat 1, 8)])])])), (.ofNat 30, [(.negSucc 0, 7)]))], [(16, false)], [(14, [[706]]), (22, [[707]]), (46, [[708, 709, 710, 711]]), (52, [[712], [713, 714, 715, 716], [717, 718]])], [], [], [])
theorem gK1097 : cChk 1097 gCT gRU gC1097 2 gH1097 3000 = true := by decide +kernel
noncomputable def gH1098 : sHt := ([(2, ((10, [(0, .ofNat 0, .ofNat 5), (1, .ofNat 0, .ofNat 940), (2, .ofNat 0, .ofNat 940), (3, .ofNat 0, .ofNat 5), (4, .ofNat 0, .ofNat 940), (5, .ofNat 0, .ofNat 7), (6, .ofNat 0, .ofNat 41), (7, .negSucc 0, .ofNat 29), (8, .ofNat 0, .ofNat 5)], [(.ofNat 0, [(.ofNat 1, 0), (.negSucc 0, 3)]), (.ofNat 0, [(.negSucc 0, 0), (.ofNat 1, 3)])], []), [(94, .ofNat 273, []), (1, .ofNat 7, []), (1, .ofNat 0, [(.ofNat 1, 0)]), (1, .ofNat 0, [(.ofNat 1, 8)])], ([((78, .ofNat 273, []), (.ofNat 17, []), 5, .ofNat 0, [(.ofNat 1, 9)]), ((80, .ofNat 275, []), (.ofNat 4, []), 1, .ofNat 0, [(.ofNat 1, 3)]), ((78, .ofNat 273, []), (.ofNat 6, []), 96, .ofNat 275, []), ((78, .ofNat 273, []), (.ofNat 4, []), 1, .ofNat 0, [(.ofNat 1, 2)]), ((78, .ofNat 273, []), (.ofNat 12, []), 1, .ofNat 0, [(.ofNat 1, 1)]), ((78, .ofNat 273, []), (.ofNat 11, []), 1, .ofNat 1, [])], [(250, [(.ofNat 0, [(.ofNat 1, 4)]), (.ofNat 0, [(.ofNat 1, 5)]), (.ofNat 0, [(.ofNat 1, 6)]), (.ofNat 1, []), (.ofNat 0, [(.ofNat 1, 1)]), (.ofNat 0, [(.ofNat 1, 2)]), (.ofNat 0, [(.ofNat 1, 7)])]), (131, [(.ofNat 0, [(.ofNat 1, 1)]), (.ofNat 0, [(.ofNat 1, 2)])]), (213, [(.ofNat 0, [(.ofNat 1, 8)]), (.ofNat 0, [(.ofNat 1, 9)])])])), (.ofNat 5, [(.negSucc 0, 8)]))], [(2, false)], [(0, [[725, 726, 727, 878]]), (23, [[733, 734, 735, 880, 881, 882], [736]]), (25, [[728, 729, 730, 731, 732, 737, 879, 883]]), (31, [[738, 739, 740, 884, 885, 886], [741]])], [], [], [])
theorem gK1098 : cChk 1098 gCT gRU gC1098 1 gH1098 3000 = true := by decide +kernel
noncomputable def gH1099 : sHt := ([], [], [(7, [[719, 720, 724], [721, 722, 723]]), (30, [[742, 743], [744]]), (36, [[745, 746], [747]])], [], [(1, [1097]), (9, [720]), (17, [1098]), (32, [720]), (37, [1053])], [])
theorem gK1099 : cChk 1099 gCT gRU gC1099 0 gH1099 3000 = true := by decide +kernel
noncomputable def gH1100 : sHt := ([(16, ((7, [(0, .ofNat 0, .ofNat 940), (1, .ofNat 0, .ofNat 940), (2, .ofNat 0, .ofNat 940), (3, .ofNat 0, .ofNat 7), (4, .ofNat 0, .ofNat 41), (5, .negSucc 2147483647, .ofNat 2147483647), (6, .ofNat 0, .ofNat 30)], [], []), [(94, .ofNat 273, []), (1, .ofNat 0, []), (1, .ofNat 0, [(.ofNat 1, 6)])], ([((78, .ofNat 273, []), (.ofNat 4, []), 1, .ofNat 0, [(.ofNat 1, 1)]), ((78, .ofNat 273, []), (.ofNat 12, []), 1, .ofNat 0, [(.ofNat 1, 0)]), ((78, .ofNat 273, []), (.ofNat 11, []), 1, .ofNat 3, [])], [(250, [(.ofNat 0, [(.ofNat 1, 2)]), (.ofNat 0, [(.ofNat 1, 3)]), (.ofNat 0, [(.ofNat 1, 4)]), (.ofNat 3, []), (.ofNat 0, [(.ofNat 1, 0)]), (.ofNat 0, [(.ofNat 1, 1)]), (.ofNat 0, [(.ofNat 1, 5)])]), (132, [])])), (.ofNat 30, [(.negSucc 0, 6)]))], [(16, false)], [(14, [[706]]), (22, [[707]]), (46, [[708, 709, 710, 711]]), (52, [[712], [713, 714, 715, 716], [717, 718]])], [], [], [])
theorem gK1100 : cChk 1100 gCT gRU gC1100 2 gH1100 3000 = true := by decide +kernel
noncomputable def gH1101 : sHt := ([], [], [(7, [[719, 720, 724], [721, 722]])], [], [(1, [1100]), (9, [720])], [])
theorem gK1101 : cChk 1101 gCT gRU gC1101 0 gH1101 3000 = true := by decide +kernel
noncomputable def gH1102 : sHt := ([(16, ((7, [(0, .ofNat 0, .ofNat 940), (1, .ofNat 0, .ofNat 940), (2, .ofNat 0, .ofNat 940), (3, .ofNat 0, .ofNat 7), (4, .ofNat 0, .ofNat 41), (5, .negSucc 2147483647, .ofNat 2147483647), (6, .ofNat 0, .ofNat 30)], [], []), [(94, .ofNat 273, []), (1, .ofNat 0, []), (1, .ofNat 0, [(.ofNat 1, 6)])], ([((78, .ofNat 273, []), (.ofNat 4, []), 1, .ofNat 0, [(.ofNat 1, 1)]), ((78, .ofNat 273, []), (.ofNat 12, []), 1, .ofNat 0, [(.ofNat 1, 0)]), ((78, .ofNat 273, []), (.ofNat 11, []), 1, .ofNat 0, [])], [(250, [(.ofNat 0, [(.ofNat 1, 2)]), (.ofNat 0, [(.ofNat 1, 3)]), (.ofNat 0, [(.ofNat 1, 4)]), (.ofNat 0, []), (.ofNat 0, [(.ofNat 1, 0)]), (.ofNat 0, [(.ofNat 1, 1)]), (.ofNat 0, [(.ofNat 1, 5)])]), (132, [])])), (.ofNat 30, [(.negSucc 0, 6)]))], [(16, false)], [(14, [[706]]), (22, [[707]]), (46, [[708, 709, 710, 711]]), (52, [[712], [713, 714, 715, 716], [717, 718]])], [], [], [])
theorem gK1102 : cChk 1102 gCT gRU gC1102 2 gH1102 3000 = true := by decide +kernel
noncomputable def gH1103 : sHt := ([], [], [(7, [[719, 720, 724], [721]])], [], [(1, [1102]), (9, [720])], [])
theorem gK1103 : cChk 1103 gCT gRU gC1103 0 gH1103 3000 = true := by decide +kernel
noncomputable def gH1104 : sHt := ([(16, ((7, [(0, .ofNat 0, .ofNat 940), (1, .ofNat 0, .ofNat 940), (2, .ofNat 0, .ofNat 940), (3, .ofNat 0, .ofNat 7), (4, .ofNat 0, .ofNat 41), (5, .negSucc 2147483647, .ofNat 2147483647), (6, .ofNat 0, .ofNat 30)], [], []), [(94, .ofNat 273, []), (1, .ofNat 0, []), (1, .ofNat 0, [(.ofNat 1, 6)])], ([((78, .ofNat 273, []), (.ofNat 4, []), 1, .ofNat 0, [(.ofNat 1, 1)]), ((78, .ofNat 273, []), (.ofNat 12, []), 1, .ofNat 0, [(.ofNat 1, 0)]), ((78, .ofNat 273, []), (.ofNat 11, []), 1, .ofNat 4, [])], [(250, [(.ofNat 0, [(.ofNat 1, 2)]), (.ofNat 0, [(.ofNat 1, 3)]), (.ofNat 0, [(.ofNat 1, 4)]), (.ofNat 4, []), (.ofNat 0, [(.ofNat 1, 0)]), (.ofNat 0, [(.ofNat 1, 1)]), (.ofNat 0, [(.ofNat 1, 5)])]), (132, [])])), (.ofNat 30, [(.negSucc 0, 6)]))], [(16, false)], [(14, [[706]]), (22, [[707]]), (46, [[708, 709, 710, 711]]), (52, [[712], [713, 714, 715, 716], [717, 718]])], [], [], [])
theorem gK1104 : cChk 1104 gCT gRU gC1104 2 gH1104 3000 = true := by decide +kernel
noncomputable def gH1105 : sHt := ([], [], [(7, [[719, 720, 724], [721, 722]])], [], [(1, [1104]), (9, [720])], [])
theorem gK1105 : cChk 1105 gCT gRU gC1105 0 gH1105 3000 = true := by decide +kernel
noncomputable def gH1106 : sHt := ([], [], [(0, [[618]]), (21, [[592, 593], [594, 595], [596, 597]])], [], [], [])
theorem gK1106 : cChk 1106 gCT gRU gC1106 0 gH1106 3000 = true := by decide +kernel
noncomputable def gH1107 : sHt := ([], [], [(0, [[619]]), (21, [[592, 593], [594, 595], [596, 597]])], [], [], [])
theorem gK1107 : cChk 1107 gCT gRU gC1107 0 gH1107 3000 = true := by decide +kernel
noncomputable def gH1108 : sHt := ([], [], [(0, [[620]]), (21, [[592, 593], [594, 595], [596, 597]])], [], [], [])
theorem gK1108 : cChk 1108 gCT gRU gC1108 0 gH1108 3000 = true := by decide +kernel
noncomputable def gH1109 : sHt := ([], [], [(0, [[621]]), (21, [[592, 593], [594, 595], [596, 597]])], [], [], [])
theorem gK1109 : cChk 1109 gCT gRU gC1109 0 gH1109 3000 = true := by decide +kernel
noncomputable def gH1110 : sHt := ([], [], [(0, [[622]]), (21, [[592, 593], [594, 595], [596, 597]])], [], [], [])
theorem gK1110 : cChk 1110 gCT gRU gC1110 0 gH1110 3000 = true := by decide +kernel
noncomputable def gH1111 : sHt := ([], [], [], [], [(4, [1106]), (18, [1107]), (32, [1108]), (46, [1109]), (60, [1110])], [])
theorem gK1111 : cChk 1111 gCT gRU gC1111 0 gH1111 3000 = true := by decide +kernel
noncomputable def gH1112 : sHt := ([], [], [(15, [[623, 624, 629, 630], [625, 626]])], [], [(2, [1111]), (17, [720])], [])
theorem gK1112 : cChk 1112 gCT gRU gC1112 0 gH1112 3000 = true := by decide +kernel
noncomputable def gH1113 : sHt := ([], [], [(0, [[618]]), (17, [[608], [609], [610]]), (21, [[592, 593], [594, 595], [596, 597]])], [], [], [])
theorem gK1113 : cChk 1113 gCT gRU gC1113 0 gH1113 3000 = true := by decide +kernel
noncomputable def gH1114 : sHt := ([], [], [(0, [[619]]), (17, [[608], [609], [610]]), (21, [[592, 593], [594, 595], [596, 597]])], [], [], [])
theorem gK1114 : cChk 1114 gCT gRU gC1114 0 gH1114 3000 = true := by decide +kernel
noncomputable def gH1115 : sHt := ([], [], [(0, [[620]]), (17, [[608], [609], [610]]), (21, [[592, 593], [594, 595], [596, 597]])], [], [], [])
theorem gK1115 : cChk 1115 gCT gRU gC1115 0 gH1115 3000 = true := by decide +kernel
noncomputable def gH1116 : sHt := ([], [], [(0, [[621]]), (17, [[608], [609], [610]]), (21, [[592, 593], [594, 595], [596, 597]])], [], [], [])
theorem gK1116 : cChk 1116 gCT gRU gC1116 0 gH1116 3000 = true := by decide +kernel
noncomputable def gH1117 : sHt := ([], [], [(0, [[622]]), (17, [[608], [609], [610]]), (21, [[592, 593], [594, 595], [596, 597]])], [], [], [])
theorem gK1117 : cChk 1117 gCT gRU gC1117 0 gH1117 3000 = true := by decide +kernel
noncomputable def gH1118 : sHt := ([], [], [], [], [(4, [1113]), (18, [1114]), (32, [1115]), (46, [1116]), (60, [1117])], [])
theorem gK1118 : cChk 1118 gCT gRU gC1118 0 gH1118 3000 = true := by decide +kernel
noncomputable def gH1119 : sHt := ([], [], [(15, [[623, 624, 629, 630], [625, 626, 627, 628]]), (21, [[631, 632, 633, 634, 635], [636]])], [], [(2, [1118]), (17, [720]), (22, [1053])], [])
theorem gK1119 : cChk 1119 gCT gRU gC1119 0 gH1119 3000 = true := by decide +kernel
noncomputable def gH1120 : sHt := ([], [], [(8, [[638, 639], [640, 641]])], [], [(10, [720])], [])
theorem gK1120 : cChk 1120 gCT gRU gC1120 0 gH1120 3000 = true := by decide +kernel
noncomputable def gH1121 : sHt := ([], [], [], [], [(3, [1120])], [])
theorem gK1121 : cChk 1121 gCT gRU gC1121 0 gH1121 3000 = true := by decide +kernel
noncomputable def gH1122 : sHt := ([], [], [(8, [[638, 639], [640]])], [], [(10, [720])], [])
theorem gK1122 : cChk 1122 gCT gRU gC1122 0 gH1122 3000 = true := by decide +kernel
noncomputable def gH1123 : sHt := ([], [], [], [], [(3, [1122])], [])
theorem gK1123 : cChk 1123 gCT gRU gC1123 0 gH1123 3000 = true := by decide +kernel
noncomputable def gH1124 : sHt := ([], [], [(8, [[638, 639], [640, 641]])], [], [(10, [720])], [])
theorem gK1124 : cChk 1124 gCT gRU gC1124 0 gH1124 3000 = true := by decide +kernel
end CkChk60
