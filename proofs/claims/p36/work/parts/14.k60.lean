section CkChk60
noncomputable def gH1053 : sHt := ([], [], [(17, [[549], [550]]), (21, [[535, 536], [537, 538]])], [], [], [])
theorem gK1053 : cChk 1053 gCT gRU gC1053 0 gH1053 3000 = true := by decide +kernel
noncomputable def gH1054 : sHt := ([], [], [(0, [[558]]), (21, [[535, 536], [537, 538]])], [], [], [])
theorem gK1054 : cChk 1054 gCT gRU gC1054 0 gH1054 3000 = true := by decide +kernel
noncomputable def gH1055 : sHt := ([], [], [(0, [[559]]), (21, [[535, 536], [537, 538]])], [], [], [])
theorem gK1055 : cChk 1055 gCT gRU gC1055 0 gH1055 3000 = true := by decide +kernel
noncomputable def gH1056 : sHt := ([], [], [(0, [[560]]), (21, [[535, 536], [537, 538]])], [], [], [])
theorem gK1056 : cChk 1056 gCT gRU gC1056 0 gH1056 3000 = true := by decide +kernel
noncomputable def gH1057 : sHt := ([], [], [(0, [[561]]), (21, [[535, 536], [537, 538]])], [], [], [])
theorem gK1057 : cChk 1057 gCT gRU gC1057 0 gH1057 3000 = true := by decide +kernel
noncomputable def gH1058 : sHt := ([], [], [(0, [[562]]), (21, [[535, 536], [537, 538]])], [], [], [])
theorem gK1058 : cChk 1058 gCT gRU gC1058 0 gH1058 3000 = true := by decide +kernel
noncomputable def gH1059 : sHt := ([], [], [], [], [(4, [1054]), (18, [1055]), (32, [1056]), (46, [1057]), (60, [1058])], [])
theorem gK1059 : cChk 1059 gCT gRU gC1059 0 gH1059 3000 = true := by decide +kernel
noncomputable def gH1060 : sHt := ([], [], [(15, [[563, 564, 565, 566]])], [], [(2, [1059]), (17, [719])], [])
theorem gK1060 : cChk 1060 gCT gRU gC1060 0 gH1060 3000 = true := by decide +kernel
noncomputable def gH1061 : sHt := ([], [], [(0, [[558]]), (17, [[549], [550]]), (21, [[535, 536], [537, 538]])], [], [], [])
theorem gK1061 : cChk 1061 gCT gRU gC1061 0 gH1061 3000 = true := by decide +kernel
noncomputable def gH1062 : sHt := ([], [], [(0, [[559]]), (17, [[549], [550]]), (21, [[535, 536], [537, 538]])], [], [], [])
theorem gK1062 : cChk 1062 gCT gRU gC1062 0 gH1062 3000 = true := by decide +kernel
noncomputable def gH1063 : sHt := ([], [], [(0, [[560]]), (17, [[549], [550]]), (21, [[535, 536], [537, 538]])], [], [], [])
theorem gK1063 : cChk 1063 gCT gRU gC1063 0 gH1063 3000 = true := by decide +kernel
noncomputable def gH1064 : sHt := ([], [], [(0, [[561]]), (17, [[549], [550]]), (21, [[535, 536], [537, 538]])], [], [], [])
theorem gK1064 : cChk 1064 gCT gRU gC1064 0 gH1064 3000 = true := by decide +kernel
noncomputable def gH1065 : sHt := ([], [], [(0, [[562]]), (17, [[549], [550]]), (21, [[535, 536], [537, 538]])], [], [], [])
theorem gK1065 : cChk 1065 gCT gRU gC1065 0 gH1065 3000 = true := by decide +kernel
noncomputable def gH1066 : sHt := ([], [], [], [], [(4, [1061]), (18, [1062]), (32, [1063]), (46, [1064]), (60, [1065])], [])
theorem gK1066 : cChk 1066 gCT gRU gC1066 0 gH1066 3000 = true := by decide +kernel
noncomputable def gH1067 : sHt := ([], [], [(15, [[563, 564, 565, 566]]), (21, [[567, 568, 569, 570, 571]])], [], [(2, [1066]), (17, [719]), (22, [1052])], [])
theorem gK1067 : cChk 1067 gCT gRU gC1067 0 gH1067 3000 = true := by decide +kernel
noncomputable def gH1068 : sHt := ([], [], [(8, [[573, 574]])], [], [(10, [719])], [])
theorem gK1068 : cChk 1068 gCT gRU gC1068 0 gH1068 3000 = true := by decide +kernel
noncomputable def gH1069 : sHt := ([], [], [], [], [(3, [1068])], [])
theorem gK1069 : cChk 1069 gCT gRU gC1069 0 gH1069 3000 = true := by decide +kernel
noncomputable def gH1070 : sHt := ([], [], [(8, [[573, 574]])], [], [(10, [719])], [])
theorem gK1070 : cChk 1070 gCT gRU gC1070 0 gH1070 3000 = true := by decide +kernel
noncomputable def gH1071 : sHt := ([], [], [], [], [(3, [1070])], [])
theorem gK1071 : cChk 1071 gCT gRU gC1071 0 gH1071 3000 = true := by decide +kernel
noncomputable def gH1072 : sHt := ([], [], [(8, [[573, 574]])], [], [(10, [719])], [])
theorem gK1072 : cChk 1072 gCT gRU gC1072 0 gH1072 3000 = true := by decide +kernel
noncomputable def gH1073 : sHt := ([], [], [], [], [(3, [1072])], [])
theorem gK1073 : cChk 1073 gCT gRU gC1073 0 gH1073 3000 = true := by decide +kernel
noncomputable def gH1074 : sHt := ([], [], [(8, [[573, 574]])], [], [(10, [719])], [])
theorem gK1074 : cChk 1074 gCT gRU gC1074 0 gH1074 3000 = true := by decide +kernel
noncomputable def gH1075 : sHt := ([], [], [], [], [(3, [1074])], [])
theorem gK1075 : cChk 1075 gCT gRU gC1075 0 gH1075 3000 = true := by decide +kernel
noncomputable def gH1076 : sHt := ([], [], [(34, [[575, 576]]), (42, [[577]])], [], [(28, [747]), (36, [719])], [])
theorem gK1076 : cChk 1076 gCT gRU gC1076 0 gH1076 3000 = true := by decide +kernel
noncomputable def gH1077 : sHt := ([], [], [(11, [[590, 591, 592, 593, 594, 595, 596, 597, 598, 599]])], [], [(3, [1076]), (12, [1052])], [])
theorem gK1077 : cChk 1077 gCT gRU gC1077 0 gH1077 3000 = true := by decide +kernel
noncomputable def gH1078 : sHt := ([], [], [(0, [[558]]), (21, [[535, 536], [537, 538]])], [], [], [])
theorem gK1078 : cChk 1078 gCT gRU gC1078 0 gH1078 3000 = true := by decide +kernel
noncomputable def gH1079 : sHt := ([], [], [(0, [[559]]), (21, [[535, 536], [537, 538]])], [], [], [])
theorem gK1079 : cChk 1079 gCT gRU gC1079 0 gH1079 3000 = true := by decide +kernel
noncomputable def gH1080 : sHt := ([], [], [(0, [[560]]), (21, [[535, 536], [537, 538]])], [], [], [])
theorem gK1080 : cChk 1080 gCT gRU gC1080 0 gH1080 3000 = true := by decide +kernel
noncomputable def gH1081 : sHt := ([], [], [(0, [[561]]), (21, [[535, 536], [537, 538]])], [], [], [])
theorem gK1081 : cChk 1081 gCT gRU gC1081 0 gH1081 3000 = true := by decide +kernel
noncomputable def gH1082 : sHt := ([], [], [(0, [[562]]), (21, [[535, 536], [537, 538]])], [], [], [])
theorem gK1082 : cChk 1082 gCT gRU gC1082 0 gH1082 3000 = true := by decide +kernel
noncomputable def gH1083 : sHt := ([], [], [], [], [(4, [1078]), (18, [1079]), (32, [1080]), (46, [1081]), (60, [1082])], [])
theorem gK1083 : cChk 1083 gCT gRU gC1083 0 gH1083 3000 = true := by decide +kernel
noncomputable def gH1084 : sHt := ([], [], [(15, [[563, 564, 565, 566]])], [], [(2, [1083]), (17, [719])], [])
theorem gK1084 : cChk 1084 gCT gRU gC1084 0 gH1084 3000 = true := by decide +kernel
noncomputable def gH1085 : sHt := ([], [], [(0, [[558]]), (21, [[535, 536], [537, 538]])], [], [], [])
theorem gK1085 : cChk 1085 gCT gRU gC1085 0 gH1085 3000 = true := by decide +kernel
noncomputable def gH1086 : sHt := ([], [], [(0, [[559]]), (21, [[535, 536], [537, 538]])], [], [], [])
theorem gK1086 : cChk 1086 gCT gRU gC1086 0 gH1086 3000 = true := by decide +kernel
noncomputable def gH1087 : sHt := ([], [], [(0, [[560]]), (21, [[535, 536], [537, 538]])], [], [], [])
theorem gK1087 : cChk 1087 gCT gRU gC1087 0 gH1087 3000 = true := by decide +kernel
noncomputable def gH1088 : sHt := ([], [], [(0, [[561]]), (21, [[535, 536], [537, 538]])], [], [], [])
theorem gK1088 : cChk 1088 gCT gRU gC1088 0 gH1088 3000 = true := by decide +kernel
noncomputable def gH1089 : sHt := ([], [], [(0, [[562]]), (21, [[535, 536], [537, 538]])], [], [], [])
theorem gK1089 : cChk 1089 gCT gRU gC1089 0 gH1089 3000 = true := by decide +kernel
noncomputable def gH1090 : sHt := ([], [], [], [], [(4, [1085]), (18, [1086]), (32, [1087]), (46, [1088]), (60, [1089])], [])
theorem gK1090 : cChk 1090 gCT gRU gC1090 0 gH1090 3000 = true := by decide +kernel
noncomputable def gH1091 : sHt := ([], [], [(15, [[563, 564, 565, 566]])], [], [(2, [1090]), (17, [719])], [])
theorem gK1091 : cChk 1091 gCT gRU gC1091 0 gH1091 3000 = true := by decide +kernel
noncomputable def gH1092 : sHt := ([], [], [(0, [[558]]), (21, [[535, 536], [537, 538]])], [], [], [])
theorem gK1092 : cChk 1092 gCT gRU gC1092 0 gH1092 3000 = true := by decide +kernel
noncomputable def gH1093 : sHt := ([], [], [(0, [[559]]), (21, [[535, 536], [537, 538]])], [], [], [])
theorem gK1093 : cChk 1093 gCT gRU gC1093 0 gH1093 3000 = true := by decide +kernel
noncomputable def gH1094 : sHt := ([], [], [(0, [[560]]), (21, [[535, 536], [537, 538]])], [], [], [])
theorem gK1094 : cChk 1094 gCT gRU gC1094 0 gH1094 3000 = true := by decide +kernel
noncomputable def gH1095 : sHt := ([], [], [(0, [[561]]), (21, [[535, 536], [537, 538]])], [], [], [])
theorem gK1095 : cChk 1095 gCT gRU gC1095 0 gH1095 3000 = true := by decide +kernel
noncomputable def gH1096 : sHt := ([], [], [(0, [[562]]), (21, [[535, 536], [537, 538]])], [], [], [])
theorem gK1096 : cChk 1096 gCT gRU gC1096 0 gH1096 3000 = true := by decide +kernel
noncomputable def gH1097 : sHt := ([], [], [], [], [(4, [1092]), (18, [1093]), (32, [1094]), (46, [1095]), (60, [1096])], [])
theorem gK1097 : cChk 1097 gCT gRU gC1097 0 gH1097 3000 = true := by decide +kernel
noncomputable def gH1098 : sHt := ([], [], [(15, [[563, 564, 565, 566]])], [], [(2, [1097]), (17, [719])], [])
theorem gK1098 : cChk 1098 gCT gRU gC1098 0 gH1098 3000 = true := by decide +kernel
noncomputable def gH1099 : sHt := ([], [], [(17, [[549], [550]]), (21, [[535, 536], [537, 538]])], [], [], [])
theorem gK1099 : cChk 1099 gCT gRU gC1099 0 gH1099 3000 = true := by decide +kernel
noncomputable def gH1100 : sHt := ([(16, ((1, [(0, .ofNat 0, .ofNat 30)], [], []), [(94, .ofNat 273, []), (1, .ofNat 0, []), (1, .ofNat 0, [(.ofNat 1, 0)])], ([((78, .ofNat 273, []), (.ofNat 11, []), 1, .ofNat 2, [])], [])), (.ofNat 30, [(.negSucc 0, 0)]))], [(16, false)], [(14, [[633]]), (22, [[634]]), (46, [[635, 636, 637, 638]]), (52, [[639], [640, 641, 642, 643]])], [], [], [])
theorem gK1100 : cChk 1100 gCT gRU gC1100 2 gH1100 3000 = true := by decide +kernel
noncomputable def gH1101 : sHt := ([], [], [(7, [[644, 645, 646]])], [], [(1, [1100]), (9, [719])], [])
theorem gK1101 : cChk 1101 gCT gRU gC1101 0 gH1101 3000 = true := by decide +kernel
noncomputable def gH1102 : sHt := ([(16, ((5, [(0, .ofNat 0, .ofNat 940), (1, .ofNat 0, .ofNat 940), (2, .ofNat 0, .ofNat 1), (3, .ofNat 0, .ofNat 30)], [], []), [(94, .ofNat 273, []), (1, .ofNat 0, [(.ofNat 1, 2)]), (1, .ofNat 0, [(.ofNat 1, 3)])], ([((78, .ofNat 273, []), (.ofNat 17, []), 5, .ofNat 0, [(.ofNat 1, 4)]), ((78, .ofNat 273, []), (.ofNat 11, []), 1, .ofNat 1, [])], [(131, [(.ofNat 0, [(.ofNat 1, 0)]), (.ofNat 0, [(.ofNat 1, 1)])]), (133, [(.ofNat 0, [(.ofNat 1, 3)]), (.ofNat 0, [(.ofNat 1, 2)]), (.ofNat 0, [(.ofNat 1, 4)])])])), (.ofNat 30, [(.negSucc 0, 3)]))], [(16, false)], [(14, [[633]]), (22, [[634]]), (46, [[635, 636, 637, 638]]), (52, [[639], [640, 641, 642, 643]])], [], [], [])
theorem gK1102 : cChk 1102 gCT gRU gC1102 2 gH1102 3000 = true := by decide +kernel
noncomputable def gH1103 : sHt := ([(2, ((5, [(0, .ofNat 0, .ofNat 5), (1, .ofNat 0, .ofNat 940), (2, .ofNat 0, .ofNat 940), (3, .ofNat 0, .ofNat 5)], [], []), [(94, .ofNat 273, []), (1, .ofNat 7, []), (1, .ofNat 0, [(.ofNat 1, 0)]), (1, .ofNat 0, [(.ofNat 1, 3)])], ([((78, .ofNat 273, []), (.ofNat 17, []), 5, .ofNat 0, [(.ofNat 1, 4)]), ((78, .ofNat 273, []), (.ofNat 11, []), 1, .ofNat 1, [])], [(131, [(.ofNat 0, [(.ofNat 1, 1)]), (.ofNat 0, [(.ofNat 1, 2)])]), (213, [(.ofNat 0, [(.ofNat 1, 3)]), (.ofNat 0, [(.ofNat 1, 4)])])])), (.ofNat 5, [(.negSucc 0, 3)]))], [(2, false)], [(0, [[647, 648, 649, 763]]), (23, [[655, 656, 657, 765, 766, 767]]), (25, [[650, 651, 652, 653, 654, 658, 764, 768]]), (31, [[659, 660, 661, 769, 770, 771]])], [], [], [])
theorem gK1103 : cChk 1103 gCT gRU gC1103 1 gH1103 3000 = true := by decide +kernel
noncomputable def gH1104 : sHt := ([], [], [(7, [[644, 645, 646]]), (30, [[662, 663]]), (36, [[664, 665]])], [], [(1, [1102]), (9, [719]), (17, [1103]), (32, [719]), (37, [1052])], [])
theorem gK1104 : cChk 1104 gCT gRU gC1104 0 gH1104 3000 = true := by decide +kernel
noncomputable def gH1105 : sHt := ([(16, ((1, [(0, .ofNat 0, .ofNat 30)], [], []), [(94, .ofNat 273, []), (1, .ofNat 0, []), (1, .ofNat 0, [(.ofNat 1, 0)])], ([((78, .ofNat 273, []), (.ofNat 11, []), 1, .ofNat 3, [])], [])), (.ofNat 30, [(.negSucc 0, 0)]))], [(16, false)], [(14, [[633]]), (22, [[634]]), (46, [[635, 636, 637, 638]]), (52, [[639], [640, 641, 642, 643]])], [], [], [])
theorem gK1105 : cChk 1105 gCT gRU gC1105 2 gH1105 3000 = true := by decide +kernel
noncomputable def gH1106 : sHt := ([], [], [(7, [[644, 645, 646]])], [], [(1, [1105]), (9, [719])], [])
theorem gK1106 : cChk 1106 gCT gRU gC1106 0 gH1106 3000 = true := by decide +kernel
noncomputable def gH1107 : sHt := ([(16, ((1, [(0, .ofNat 0, .ofNat 30)], [], []), [(94, .ofNat 273, []), (1, .ofNat 0, []), (1, .ofNat 0, [(.ofNat 1, 0)])], ([((78, .ofNat 273, []), (.ofNat 11, []), 1, .ofNat 0, [])], [])), (.ofNat 30, [(.negSucc 0, 0)]))], [(16, false)], [(14, [[633]]), (22, [[634]]), (46, [[635, 636, 637, 638]]), (52, [[639], [640, 641, 642, 643]])], [], [], [])
theorem gK1107 : cChk 1107 gCT gRU gC1107 2 gH1107 3000 = true := by decide +kernel
noncomputable def gH1108 : sHt := ([], [], [(7, [[644, 645, 646]])], [], [(1, [1107]), (9, [719])], [])
theorem gK1108 : cChk 1108 gCT gRU gC1108 0 gH1108 3000 = true := by decide +kernel
noncomputable def gH1109 : sHt := ([(16, ((1, [(0, .ofNat 0, .ofNat 30)], [], []), [(94, .ofNat 273, []), (1, .ofNat 0, []), (1, .ofNat 0, [(.ofNat 1, 0)])], ([((78, .ofNat 273, []), (.ofNat 11, []), 1, .ofNat 4, [])], [])), (.ofNat 30, [(.negSucc 0, 0)]))], [(16, false)], [(14, [[633]]), (22, [[634]]), (46, [[635, 636, 637, 638]]), (52, [[639], [640, 641, 642, 643]])], [], [], [])
theorem gK1109 : cChk 1109 gCT gRU gC1109 2 gH1109 3000 = true := by decide +kernel
noncomputable def gH1110 : sHt := ([], [], [(7, [[644, 645, 646]])], [], [(1, [1109]), (9, [719])], [])
theorem gK1110 : cChk 1110 gCT gRU gC1110 0 gH1110 3000 = true := by decide +kernel
noncomputable def gH1111 : sHt := ([], [], [(17, [[549], [550]]), (21, [[535, 536], [537, 538]])], [], [], [])
theorem gK1111 : cChk 1111 gCT gRU gC1111 0 gH1111 3000 = true := by decide +kernel
noncomputable def gH1112 : sHt := ([], [], [(17, [[549], [550]]), (21, [[535, 536], [537, 538]])], [], [], [])
theorem gK1112 : cChk 1112 gCT gRU gC1112 0 gH1112 3000 = true := by decide +kernel
noncomputable def gH1113 : sHt := ([], [], [(17, [[549], [550]]), (21, [[535, 536], [537, 538]])], [], [], [])
theorem gK1113 : cChk 1113 gCT gRU gC1113 0 gH1113 3000 = true := by decide +kernel
noncomputable def gH1114 : sHt := ([], [], [(161, [[762]]), (192, [[774]]), (288, [[772], [773]])], [], [(11, [1053]), (25, [1099]), (39, [1111]), (53, [1112]), (67, [1113]), (85, [719]), (100, [719]), (112, [1052]), (120, [1060, 1067, 1084, 1091, 1098]), (129, [1069, 1071, 1073, 1075, 1077]), (172, [1077, 1075, 1073, 1071, 1069]), (208, [1101, 1104, 1106, 1108, 1110]), (238, [1069, 1071, 1073, 1075, 1077]), (268, [1069, 1071, 1073, 1075, 1077])], [])
theorem gK1114 : cChk 1114 gCT gRU gC1114 2 gH1114 3000 = true := by decide +kernel
end CkChk60
