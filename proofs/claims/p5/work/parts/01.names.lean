section EvNames
/-- a private method of a class that the tables say can be made, by its rows of tables_1 -/
def lw_okq (q : MethodName × Nat) : Prop := (q.1.cls ≠ "java/lang/invoke/MethodHandle" ∧ q.1.cls ≠ "java/lang/invoke/VarHandle") ∧ Cond.instantiable q.1.cls q.2 ∈ tables_1 ∧ Cond.privateMethod q.1 ∈ tables_1 ∧ Cond.instanceMethod q.1 ∈ tables_1
theorem lw_p0 : lw_okq (⟨"LeafVotes", "putBytes", "(I)V"⟩, 20) := ⟨⟨by decide +kernel, by decide +kernel⟩, List.mem_of_getElem? (i := 27) (by decide +kernel), List.mem_of_getElem? (i := 689) (by decide +kernel), List.mem_of_getElem? (i := 690) (by decide +kernel)⟩
theorem lw_p1 : lw_okq (⟨"LeafVotes", "openTape", "(I)V"⟩, 20) := ⟨⟨by decide +kernel, by decide +kernel⟩, List.mem_of_getElem? (i := 27) (by decide +kernel), List.mem_of_getElem? (i := 701) (by decide +kernel), List.mem_of_getElem? (i := 702) (by decide +kernel)⟩
theorem lw_p2 : lw_okq (⟨"LeafVotes$Tokens", "readMark", "()V"⟩, 11) := ⟨⟨by decide +kernel, by decide +kernel⟩, List.mem_of_getElem? (i := 319) (by decide +kernel), List.mem_of_getElem? (i := 735) (by decide +kernel), List.mem_of_getElem? (i := 736) (by decide +kernel)⟩
theorem lw_p3 : lw_okq (⟨"LeafVotes$Tokens", "readRun", "()V"⟩, 11) := ⟨⟨by decide +kernel, by decide +kernel⟩, List.mem_of_getElem? (i := 319) (by decide +kernel), List.mem_of_getElem? (i := 739) (by decide +kernel), List.mem_of_getElem? (i := 740) (by decide +kernel)⟩
theorem lw_p4 : lw_okq (⟨"LeafVotes$Tokens", "wordOf", "(J)I"⟩, 11) := ⟨⟨by decide +kernel, by decide +kernel⟩, List.mem_of_getElem? (i := 319) (by decide +kernel), List.mem_of_getElem? (i := 743) (by decide +kernel), List.mem_of_getElem? (i := 744) (by decide +kernel)⟩
theorem lw_p5 : lw_okq (⟨"LeafVotes$ParishReader", "readSize", "()V"⟩, 5) := ⟨⟨by decide +kernel, by decide +kernel⟩, List.mem_of_getElem? (i := 420) (by decide +kernel), List.mem_of_getElem? (i := 751) (by decide +kernel), List.mem_of_getElem? (i := 752) (by decide +kernel)⟩
theorem lw_p6 : lw_okq (⟨"LeafVotes$ParishReader", "readOwner", "()V"⟩, 5) := ⟨⟨by decide +kernel, by decide +kernel⟩, List.mem_of_getElem? (i := 420) (by decide +kernel), List.mem_of_getElem? (i := 761) (by decide +kernel), List.mem_of_getElem? (i := 762) (by decide +kernel)⟩
theorem lw_p7 : lw_okq (⟨"LeafVotes$ParishReader", "readNewName", "(I)V"⟩, 5) := ⟨⟨by decide +kernel, by decide +kernel⟩, List.mem_of_getElem? (i := 420) (by decide +kernel), List.mem_of_getElem? (i := 765) (by decide +kernel), List.mem_of_getElem? (i := 766) (by decide +kernel)⟩
theorem lw_p8 : lw_okq (⟨"LeafVotes$ParishReader", "readField", "()V"⟩, 5) := ⟨⟨by decide +kernel, by decide +kernel⟩, List.mem_of_getElem? (i := 420) (by decide +kernel), List.mem_of_getElem? (i := 777) (by decide +kernel), List.mem_of_getElem? (i := 778) (by decide +kernel)⟩
theorem lw_p9 : lw_okq (⟨"LeafVotes$ParishReader", "readArea", "(II)V"⟩, 5) := ⟨⟨by decide +kernel, by decide +kernel⟩, List.mem_of_getElem? (i := 420) (by decide +kernel), List.mem_of_getElem? (i := 787) (by decide +kernel), List.mem_of_getElem? (i := 788) (by decide +kernel)⟩
theorem lw_p10 : lw_okq (⟨"LeafVotes$ParishReader", "isAnyTaken", "(IIII)Z"⟩, 5) := ⟨⟨by decide +kernel, by decide +kernel⟩, List.mem_of_getElem? (i := 420) (by decide +kernel), List.mem_of_getElem? (i := 791) (by decide +kernel), List.mem_of_getElem? (i := 792) (by decide +kernel)⟩
theorem lw_p11 : lw_okq (⟨"LeafVotes$ParishReader", "readStrip", "()V"⟩, 5) := ⟨⟨by decide +kernel, by decide +kernel⟩, List.mem_of_getElem? (i := 420) (by decide +kernel), List.mem_of_getElem? (i := 799) (by decide +kernel), List.mem_of_getElem? (i := 800) (by decide +kernel)⟩
theorem lw_p12 : lw_okq (⟨"LeafVotes$ParishReader", "readKind", "()V"⟩, 5) := ⟨⟨by decide +kernel, by decide +kernel⟩, List.mem_of_getElem? (i := 420) (by decide +kernel), List.mem_of_getElem? (i := 803) (by decide +kernel), List.mem_of_getElem? (i := 804) (by decide +kernel)⟩
theorem lw_p13 : lw_okq (⟨"LeafVotes$ParishReader", "readTree", "()V"⟩, 5) := ⟨⟨by decide +kernel, by decide +kernel⟩, List.mem_of_getElem? (i := 420) (by decide +kernel), List.mem_of_getElem? (i := 811) (by decide +kernel), List.mem_of_getElem? (i := 812) (by decide +kernel)⟩
theorem lw_p14 : lw_okq (⟨"LeafVotes$ParishReader", "readWall", "()V"⟩, 5) := ⟨⟨by decide +kernel, by decide +kernel⟩, List.mem_of_getElem? (i := 420) (by decide +kernel), List.mem_of_getElem? (i := 835) (by decide +kernel), List.mem_of_getElem? (i := 836) (by decide +kernel)⟩
theorem lw_p15 : lw_okq (⟨"LeafVotes$ParishReader", "readWind", "()V"⟩, 5) := ⟨⟨by decide +kernel, by decide +kernel⟩, List.mem_of_getElem? (i := 420) (by decide +kernel), List.mem_of_getElem? (i := 843) (by decide +kernel), List.mem_of_getElem? (i := 844) (by decide +kernel)⟩
def lw_privs_1 : List (MethodName × Nat) := [(⟨"LeafVotes", "putBytes", "(I)V"⟩, 20), (⟨"LeafVotes", "openTape", "(I)V"⟩, 20), (⟨"LeafVotes$Tokens", "readMark", "()V"⟩, 11), (⟨"LeafVotes$Tokens", "readRun", "()V"⟩, 11), (⟨"LeafVotes$Tokens", "wordOf", "(J)I"⟩, 11), (⟨"LeafVotes$ParishReader", "readSize", "()V"⟩, 5), (⟨"LeafVotes$ParishReader", "readOwner", "()V"⟩, 5), (⟨"LeafVotes$ParishReader", "readNewName", "(I)V"⟩, 5), (⟨"LeafVotes$ParishReader", "readField", "()V"⟩, 5), (⟨"LeafVotes$ParishReader", "readArea", "(II)V"⟩, 5), (⟨"LeafVotes$ParishReader", "isAnyTaken", "(IIII)Z"⟩, 5), (⟨"LeafVotes$ParishReader", "readStrip", "()V"⟩, 5), (⟨"LeafVotes$ParishReader", "readKind", "()V"⟩, 5), (⟨"LeafVotes$ParishReader", "readTree", "()V"⟩, 5), (⟨"LeafVotes$ParishReader", "readWall", "()V"⟩, 5), (⟨"LeafVotes$ParishReader", "readWind", "()V"⟩, 5)]
theorem lw_r1 : ∀ q ∈ lw_privs_1, lw_okq q := List.forall_mem_cons.mpr ⟨lw_p0, List.forall_mem_cons.mpr ⟨lw_p1, List.forall_mem_cons.mpr ⟨lw_p2, List.forall_mem_cons.mpr ⟨lw_p3, List.forall_mem_cons.mpr ⟨lw_p4, List.forall_mem_cons.mpr ⟨lw_p5, List.forall_mem_cons.mpr ⟨lw_p6, List.forall_mem_cons.mpr ⟨lw_p7, List.forall_mem_cons.mpr ⟨lw_p8, List.forall_mem_cons.mpr ⟨lw_p9, List.forall_mem_cons.mpr ⟨lw_p10, List.forall_mem_cons.mpr ⟨lw_p11, List.forall_mem_cons.mpr ⟨lw_p12, List.forall_mem_cons.mpr ⟨lw_p13, List.forall_mem_cons.mpr ⟨lw_p14, List.forall_mem_cons.mpr ⟨lw_p15, fun _ h => absurd h List.not_mem_nil⟩⟩⟩⟩⟩⟩⟩⟩⟩⟩⟩⟩⟩⟩⟩⟩
theorem lw_p16 : lw_okq (⟨"LeafVotes", "isOwner", "(I)Z"⟩, 20) := ⟨⟨by decide +kernel, by decide +kernel⟩, List.mem_of_getElem? (i := 27) (by decide +kernel), List.mem_of_getElem? (i := 880) (by decide +kernel), List.mem_of_getElem? (i := 881) (by decide +kernel)⟩
theorem lw_p17 : lw_okq (⟨"LeafVotes", "cellsOfOwner", "(I)I"⟩, 20) := ⟨⟨by decide +kernel, by decide +kernel⟩, List.mem_of_getElem? (i := 27) (by decide +kernel), List.mem_of_getElem? (i := 884) (by decide +kernel), List.mem_of_getElem? (i := 885) (by decide +kernel)⟩
theorem lw_p18 : lw_okq (⟨"LeafVotes", "stripsOfOwner", "(I)I"⟩, 20) := ⟨⟨by decide +kernel, by decide +kernel⟩, List.mem_of_getElem? (i := 27) (by decide +kernel), List.mem_of_getElem? (i := 892) (by decide +kernel), List.mem_of_getElem? (i := 893) (by decide +kernel)⟩
theorem lw_p19 : lw_okq (⟨"LeafVotes", "isStrip", "(I)Z"⟩, 20) := ⟨⟨by decide +kernel, by decide +kernel⟩, List.mem_of_getElem? (i := 27) (by decide +kernel), List.mem_of_getElem? (i := 900) (by decide +kernel), List.mem_of_getElem? (i := 901) (by decide +kernel)⟩
theorem lw_p20 : lw_okq (⟨"LeafVotes", "votersOf", "(I)I"⟩, 20) := ⟨⟨by decide +kernel, by decide +kernel⟩, List.mem_of_getElem? (i := 27) (by decide +kernel), List.mem_of_getElem? (i := 904) (by decide +kernel), List.mem_of_getElem? (i := 905) (by decide +kernel)⟩
theorem lw_p21 : lw_okq (⟨"LeafVotes", "isWind", "(II)Z"⟩, 20) := ⟨⟨by decide +kernel, by decide +kernel⟩, List.mem_of_getElem? (i := 27) (by decide +kernel), List.mem_of_getElem? (i := 947) (by decide +kernel), List.mem_of_getElem? (i := 948) (by decide +kernel)⟩
theorem lw_p22 : lw_okq (⟨"LeafVotes$Fall", "gather", "()V"⟩, 13) := ⟨⟨by decide +kernel, by decide +kernel⟩, List.mem_of_getElem? (i := 484) (by decide +kernel), List.mem_of_getElem? (i := 987) (by decide +kernel), List.mem_of_getElem? (i := 988) (by decide +kernel)⟩
theorem lw_p23 : lw_okq (⟨"LeafVotes$Fall", "castVotes", "(I)V"⟩, 13) := ⟨⟨by decide +kernel, by decide +kernel⟩, List.mem_of_getElem? (i := 484) (by decide +kernel), List.mem_of_getElem? (i := 991) (by decide +kernel), List.mem_of_getElem? (i := 992) (by decide +kernel)⟩
theorem lw_p24 : lw_okq (⟨"LeafVotes$Acts", "noteVotes", "(LLeafVotes$Parish;LLeafVotes$Land;)V"⟩, 2) := ⟨⟨by decide +kernel, by decide +kernel⟩, List.mem_of_getElem? (i := 539) (by decide +kernel), List.mem_of_getElem? (i := 1007) (by decide +kernel), List.mem_of_getElem? (i := 1008) (by decide +kernel)⟩
theorem lw_p25 : lw_okq (⟨"LeafVotes", "keepIfDone", "(I)I"⟩, 20) := ⟨⟨by decide +kernel, by decide +kernel⟩, List.mem_of_getElem? (i := 27) (by decide +kernel), List.mem_of_getElem? (i := 1017) (by decide +kernel), List.mem_of_getElem? (i := 1018) (by decide +kernel)⟩
theorem lw_p26 : lw_okq (⟨"LeafVotes", "isKind", "(I)Z"⟩, 20) := ⟨⟨by decide +kernel, by decide +kernel⟩, List.mem_of_getElem? (i := 27) (by decide +kernel), List.mem_of_getElem? (i := 1029) (by decide +kernel), List.mem_of_getElem? (i := 1030) (by decide +kernel)⟩
theorem lw_p27 : lw_okq (⟨"LeafVotes", "isCell", "(II)Z"⟩, 20) := ⟨⟨by decide +kernel, by decide +kernel⟩, List.mem_of_getElem? (i := 27) (by decide +kernel), List.mem_of_getElem? (i := 1033) (by decide +kernel), List.mem_of_getElem? (i := 1034) (by decide +kernel)⟩
theorem lw_p28 : lw_okq (⟨"LeafVotes", "isTree", "(I)Z"⟩, 20) := ⟨⟨by decide +kernel, by decide +kernel⟩, List.mem_of_getElem? (i := 27) (by decide +kernel), List.mem_of_getElem? (i := 1047) (by decide +kernel), List.mem_of_getElem? (i := 1048) (by decide +kernel)⟩
theorem lw_p29 : lw_okq (⟨"LeafVotes", "takeSacks", "()Z"⟩, 20) := ⟨⟨by decide +kernel, by decide +kernel⟩, List.mem_of_getElem? (i := 27) (by decide +kernel), List.mem_of_getElem? (i := 1112) (by decide +kernel), List.mem_of_getElem? (i := 1113) (by decide +kernel)⟩
theorem lw_p30 : lw_okq (⟨"LeafVotes", "sacksAreSo", "()Z"⟩, 20) := ⟨⟨by decide +kernel, by decide +kernel⟩, List.mem_of_getElem? (i := 27) (by decide +kernel), List.mem_of_getElem? (i := 1116) (by decide +kernel), List.mem_of_getElem? (i := 1117) (by decide +kernel)⟩
theorem lw_p31 : lw_okq (⟨"LeafVotes", "sacksAreSoWithout", "(I)Z"⟩, 20) := ⟨⟨by decide +kernel, by decide +kernel⟩, List.mem_of_getElem? (i := 27) (by decide +kernel), List.mem_of_getElem? (i := 1128) (by decide +kernel), List.mem_of_getElem? (i := 1129) (by decide +kernel)⟩
def lw_privs_2 : List (MethodName × Nat) := [(⟨"LeafVotes", "isOwner", "(I)Z"⟩, 20), (⟨"LeafVotes", "cellsOfOwner", "(I)I"⟩, 20), (⟨"LeafVotes", "stripsOfOwner", "(I)I"⟩, 20), (⟨"LeafVotes", "isStrip", "(I)Z"⟩, 20), (⟨"LeafVotes", "votersOf", "(I)I"⟩, 20), (⟨"LeafVotes", "isWind", "(II)Z"⟩, 20), (⟨"LeafVotes$Fall", "gather", "()V"⟩, 13), (⟨"LeafVotes$Fall", "castVotes", "(I)V"⟩, 13), (⟨"LeafVotes$Acts", "noteVotes", "(LLeafVotes$Parish;LLeafVotes$Land;)V"⟩, 2), (⟨"LeafVotes", "keepIfDone", "(I)I"⟩, 20), (⟨"LeafVotes", "isKind", "(I)Z"⟩, 20), (⟨"LeafVotes", "isCell", "(II)Z"⟩, 20), (⟨"LeafVotes", "isTree", "(I)Z"⟩, 20), (⟨"LeafVotes", "takeSacks", "()Z"⟩, 20), (⟨"LeafVotes", "sacksAreSo", "()Z"⟩, 20), (⟨"LeafVotes", "sacksAreSoWithout", "(I)Z"⟩, 20)]
theorem lw_r2 : ∀ q ∈ lw_privs_2, lw_okq q := List.forall_mem_cons.mpr ⟨lw_p16, List.forall_mem_cons.mpr ⟨lw_p17, List.forall_mem_cons.mpr ⟨lw_p18, List.forall_mem_cons.mpr ⟨lw_p19, List.forall_mem_cons.mpr ⟨lw_p20, List.forall_mem_cons.mpr ⟨lw_p21, List.forall_mem_cons.mpr ⟨lw_p22, List.forall_mem_cons.mpr ⟨lw_p23, List.forall_mem_cons.mpr ⟨lw_p24, List.forall_mem_cons.mpr ⟨lw_p25, List.forall_mem_cons.mpr ⟨lw_p26, List.forall_mem_cons.mpr ⟨lw_p27, List.forall_mem_cons.mpr ⟨lw_p28, List.forall_mem_cons.mpr ⟨lw_p29, List.forall_mem_cons.mpr ⟨lw_p30, List.forall_mem_cons.mpr ⟨lw_p31, fun _ h => absurd h List.not_mem_nil⟩⟩⟩⟩⟩⟩⟩⟩⟩⟩⟩⟩⟩⟩⟩⟩
theorem lw_p32 : lw_okq (⟨"LeafVotes$Planner", "canvass", "(II)V"⟩, 12) := ⟨⟨by decide +kernel, by decide +kernel⟩, List.mem_of_getElem? (i := 552) (by decide +kernel), List.mem_of_getElem? (i := 1152) (by decide +kernel), List.mem_of_getElem? (i := 1153) (by decide +kernel)⟩
theorem lw_p33 : lw_okq (⟨"LeafVotes$Planner", "heirWith", "(IIII)I"⟩, 12) := ⟨⟨by decide +kernel, by decide +kernel⟩, List.mem_of_getElem? (i := 552) (by decide +kernel), List.mem_of_getElem? (i := 1162) (by decide +kernel), List.mem_of_getElem? (i := 1163) (by decide +kernel)⟩
theorem lw_p34 : lw_okq (⟨"LeafVotes$Planner", "heirByRow", "()I"⟩, 12) := ⟨⟨by decide +kernel, by decide +kernel⟩, List.mem_of_getElem? (i := 552) (by decide +kernel), List.mem_of_getElem? (i := 1166) (by decide +kernel), List.mem_of_getElem? (i := 1167) (by decide +kernel)⟩
theorem lw_p35 : lw_okq (⟨"LeafVotes$Planner", "pickBest", "()I"⟩, 12) := ⟨⟨by decide +kernel, by decide +kernel⟩, List.mem_of_getElem? (i := 552) (by decide +kernel), List.mem_of_getElem? (i := 1171) (by decide +kernel), List.mem_of_getElem? (i := 1172) (by decide +kernel)⟩
theorem lw_p36 : lw_okq (⟨"LeafVotes", "keepCell", "(I)I"⟩, 20) := ⟨⟨by decide +kernel, by decide +kernel⟩, List.mem_of_getElem? (i := 27) (by decide +kernel), List.mem_of_getElem? (i := 1175) (by decide +kernel), List.mem_of_getElem? (i := 1176) (by decide +kernel)⟩
theorem lw_p37 : lw_okq (⟨"LeafVotes$Planner", "heirWithWall", "(II)I"⟩, 12) := ⟨⟨by decide +kernel, by decide +kernel⟩, List.mem_of_getElem? (i := 552) (by decide +kernel), List.mem_of_getElem? (i := 1188) (by decide +kernel), List.mem_of_getElem? (i := 1189) (by decide +kernel)⟩
theorem lw_p38 : lw_okq (⟨"LeafVotes$Planner", "isAhead", "(IIII)Z"⟩, 12) := ⟨⟨by decide +kernel, by decide +kernel⟩, List.mem_of_getElem? (i := 552) (by decide +kernel), List.mem_of_getElem? (i := 1192) (by decide +kernel), List.mem_of_getElem? (i := 1193) (by decide +kernel)⟩
theorem lw_p39 : lw_okq (⟨"LeafVotes$Planner", "revote", "(I)V"⟩, 12) := ⟨⟨by decide +kernel, by decide +kernel⟩, List.mem_of_getElem? (i := 552) (by decide +kernel), List.mem_of_getElem? (i := 1199) (by decide +kernel), List.mem_of_getElem? (i := 1200) (by decide +kernel)⟩
theorem lw_p40 : lw_okq (⟨"LeafVotes$Planner", "listHeirs", "(II)V"⟩, 12) := ⟨⟨by decide +kernel, by decide +kernel⟩, List.mem_of_getElem? (i := 552) (by decide +kernel), List.mem_of_getElem? (i := 1212) (by decide +kernel), List.mem_of_getElem? (i := 1213) (by decide +kernel)⟩
theorem lw_p41 : lw_okq (⟨"LeafVotes$Planner", "answerOf", "(II)I"⟩, 12) := ⟨⟨by decide +kernel, by decide +kernel⟩, List.mem_of_getElem? (i := 552) (by decide +kernel), List.mem_of_getElem? (i := 1216) (by decide +kernel), List.mem_of_getElem? (i := 1217) (by decide +kernel)⟩
theorem lw_p42 : lw_okq (⟨"LeafVotes$Planner", "chancesBehind", "(II)I"⟩, 12) := ⟨⟨by decide +kernel, by decide +kernel⟩, List.mem_of_getElem? (i := 552) (by decide +kernel), List.mem_of_getElem? (i := 1220) (by decide +kernel), List.mem_of_getElem? (i := 1221) (by decide +kernel)⟩
theorem lw_p43 : lw_okq (⟨"LeafVotes$Acts", "draw", "(I)I"⟩, 2) := ⟨⟨by decide +kernel, by decide +kernel⟩, List.mem_of_getElem? (i := 539) (by decide +kernel), List.mem_of_getElem? (i := 1240) (by decide +kernel), List.mem_of_getElem? (i := 1241) (by decide +kernel)⟩
theorem lw_p44 : lw_okq (⟨"LeafVotes$Roll", "readLine", "(LLeafVotes$Tokens;LLeafVotes$Parish;)V"⟩, 10) := ⟨⟨by decide +kernel, by decide +kernel⟩, List.mem_of_getElem? (i := 442) (by decide +kernel), List.mem_of_getElem? (i := 1264) (by decide +kernel), List.mem_of_getElem? (i := 1265) (by decide +kernel)⟩
theorem lw_p45 : lw_okq (⟨"LeafVotes$Sentence", "readCondition", "(LLeafVotes$Tokens;LLeafVotes$Parish;I)V"⟩, 7) := ⟨⟨by decide +kernel, by decide +kernel⟩, List.mem_of_getElem? (i := 265) (by decide +kernel), List.mem_of_getElem? (i := 1299) (by decide +kernel), List.mem_of_getElem? (i := 1300) (by decide +kernel)⟩
theorem lw_p46 : lw_okq (⟨"LeafVotes$Sentence", "readOne", "(LLeafVotes$Tokens;LLeafVotes$Parish;I)V"⟩, 7) := ⟨⟨by decide +kernel, by decide +kernel⟩, List.mem_of_getElem? (i := 265) (by decide +kernel), List.mem_of_getElem? (i := 1303) (by decide +kernel), List.mem_of_getElem? (i := 1304) (by decide +kernel)⟩
theorem lw_p47 : lw_okq (⟨"LeafVotes$Sentence", "addStep", "(III)V"⟩, 7) := ⟨⟨by decide +kernel, by decide +kernel⟩, List.mem_of_getElem? (i := 265) (by decide +kernel), List.mem_of_getElem? (i := 1310) (by decide +kernel), List.mem_of_getElem? (i := 1311) (by decide +kernel)⟩
def lw_privs_3 : List (MethodName × Nat) := [(⟨"LeafVotes$Planner", "canvass", "(II)V"⟩, 12), (⟨"LeafVotes$Planner", "heirWith", "(IIII)I"⟩, 12), (⟨"LeafVotes$Planner", "heirByRow", "()I"⟩, 12), (⟨"LeafVotes$Planner", "pickBest", "()I"⟩, 12), (⟨"LeafVotes", "keepCell", "(I)I"⟩, 20), (⟨"LeafVotes$Planner", "heirWithWall", "(II)I"⟩, 12), (⟨"LeafVotes$Planner", "isAhead", "(IIII)Z"⟩, 12), (⟨"LeafVotes$Planner", "revote", "(I)V"⟩, 12), (⟨"LeafVotes$Planner", "listHeirs", "(II)V"⟩, 12), (⟨"LeafVotes$Planner", "answerOf", "(II)I"⟩, 12), (⟨"LeafVotes$Planner", "chancesBehind", "(II)I"⟩, 12), (⟨"LeafVotes$Acts", "draw", "(I)I"⟩, 2), (⟨"LeafVotes$Roll", "readLine", "(LLeafVotes$Tokens;LLeafVotes$Parish;)V"⟩, 10), (⟨"LeafVotes$Sentence", "readCondition", "(LLeafVotes$Tokens;LLeafVotes$Parish;I)V"⟩, 7), (⟨"LeafVotes$Sentence", "readOne", "(LLeafVotes$Tokens;LLeafVotes$Parish;I)V"⟩, 7), (⟨"LeafVotes$Sentence", "addStep", "(III)V"⟩, 7)]
theorem lw_r3 : ∀ q ∈ lw_privs_3, lw_okq q := List.forall_mem_cons.mpr ⟨lw_p32, List.forall_mem_cons.mpr ⟨lw_p33, List.forall_mem_cons.mpr ⟨lw_p34, List.forall_mem_cons.mpr ⟨lw_p35, List.forall_mem_cons.mpr ⟨lw_p36, List.forall_mem_cons.mpr ⟨lw_p37, List.forall_mem_cons.mpr ⟨lw_p38, List.forall_mem_cons.mpr ⟨lw_p39, List.forall_mem_cons.mpr ⟨lw_p40, List.forall_mem_cons.mpr ⟨lw_p41, List.forall_mem_cons.mpr ⟨lw_p42, List.forall_mem_cons.mpr ⟨lw_p43, List.forall_mem_cons.mpr ⟨lw_p44, List.forall_mem_cons.mpr ⟨lw_p45, List.forall_mem_cons.mpr ⟨lw_p46, List.forall_mem_cons.mpr ⟨lw_p47, fun _ h => absurd h List.not_mem_nil⟩⟩⟩⟩⟩⟩⟩⟩⟩⟩⟩⟩⟩⟩⟩⟩
theorem lw_p48 : lw_okq (⟨"LeafVotes$Sentence", "readPlain", "(LLeafVotes$Tokens;LLeafVotes$Parish;I)V"⟩, 7) := ⟨⟨by decide +kernel, by decide +kernel⟩, List.mem_of_getElem? (i := 265) (by decide +kernel), List.mem_of_getElem? (i := 1314) (by decide +kernel), List.mem_of_getElem? (i := 1315) (by decide +kernel)⟩
theorem lw_p49 : lw_okq (⟨"LeafVotes$Sentence", "treesOfStep", "(ILLeafVotes$Parish;LLeafVotes$Land;)I"⟩, 7) := ⟨⟨by decide +kernel, by decide +kernel⟩, List.mem_of_getElem? (i := 265) (by decide +kernel), List.mem_of_getElem? (i := 1331) (by decide +kernel), List.mem_of_getElem? (i := 1332) (by decide +kernel)⟩
theorem lw_p50 : lw_okq (⟨"LeafVotes$Sentence", "holds", "(IILLeafVotes$Parish;LLeafVotes$Land;)Z"⟩, 7) := ⟨⟨by decide +kernel, by decide +kernel⟩, List.mem_of_getElem? (i := 265) (by decide +kernel), List.mem_of_getElem? (i := 1335) (by decide +kernel), List.mem_of_getElem? (i := 1336) (by decide +kernel)⟩
theorem lw_p51 : lw_okq (⟨"LeafVotes$Sentence", "compares", "(II)Z"⟩, 7) := ⟨⟨by decide +kernel, by decide +kernel⟩, List.mem_of_getElem? (i := 265) (by decide +kernel), List.mem_of_getElem? (i := 1342) (by decide +kernel), List.mem_of_getElem? (i := 1343) (by decide +kernel)⟩
theorem lw_p52 : lw_okq (⟨"java/lang/Throwable", "fillInStackTrace", "(I)Ljava/lang/Throwable;"⟩, 6) := ⟨⟨by decide +kernel, by decide +kernel⟩, List.mem_of_getElem? (i := 1419) (by decide +kernel), List.mem_of_getElem? (i := 1417) (by decide +kernel), List.mem_of_getElem? (i := 1418) (by decide +kernel)⟩
theorem lw_p53 : lw_okq (⟨"LeafVotes", "saysOf", "(I)I"⟩, 20) := ⟨⟨by decide +kernel, by decide +kernel⟩, List.mem_of_getElem? (i := 27) (by decide +kernel), List.mem_of_getElem? (i := 1445) (by decide +kernel), List.mem_of_getElem? (i := 1446) (by decide +kernel)⟩
theorem lw_p54 : lw_okq (⟨"LeafVotesModel", "four", "(I)V"⟩, 57) := ⟨⟨by decide +kernel, by decide +kernel⟩, List.mem_of_getElem? (i := 1475) (by decide +kernel), List.mem_of_getElem? (i := 1473) (by decide +kernel), List.mem_of_getElem? (i := 1474) (by decide +kernel)⟩
theorem lw_p55 : lw_okq (⟨"LeafVotesModel", "begins", "()V"⟩, 57) := ⟨⟨by decide +kernel, by decide +kernel⟩, List.mem_of_getElem? (i := 1475) (by decide +kernel), List.mem_of_getElem? (i := 1517) (by decide +kernel), List.mem_of_getElem? (i := 1518) (by decide +kernel)⟩
theorem lw_p56 : lw_okq (⟨"LeafVotesModel", "taken", "(I)V"⟩, 57) := ⟨⟨by decide +kernel, by decide +kernel⟩, List.mem_of_getElem? (i := 1475) (by decide +kernel), List.mem_of_getElem? (i := 1697) (by decide +kernel), List.mem_of_getElem? (i := 1698) (by decide +kernel)⟩
theorem lw_p57 : lw_okq (⟨"LeafVotesModel", "skip", "()V"⟩, 57) := ⟨⟨by decide +kernel, by decide +kernel⟩, List.mem_of_getElem? (i := 1475) (by decide +kernel), List.mem_of_getElem? (i := 1701) (by decide +kernel), List.mem_of_getElem? (i := 1702) (by decide +kernel)⟩
theorem lw_p58 : lw_okq (⟨"LeafVotesModel", "peek", "()I"⟩, 57) := ⟨⟨by decide +kernel, by decide +kernel⟩, List.mem_of_getElem? (i := 1475) (by decide +kernel), List.mem_of_getElem? (i := 1705) (by decide +kernel), List.mem_of_getElem? (i := 1706) (by decide +kernel)⟩
theorem lw_p59 : lw_okq (⟨"LeafVotesModel", "line", "()Z"⟩, 57) := ⟨⟨by decide +kernel, by decide +kernel⟩, List.mem_of_getElem? (i := 1475) (by decide +kernel), List.mem_of_getElem? (i := 1715) (by decide +kernel), List.mem_of_getElem? (i := 1716) (by decide +kernel)⟩
theorem lw_p60 : lw_okq (⟨"LeafVotesModel", "isWord", "(J)Z"⟩, 57) := ⟨⟨by decide +kernel, by decide +kernel⟩, List.mem_of_getElem? (i := 1475) (by decide +kernel), List.mem_of_getElem? (i := 1719) (by decide +kernel), List.mem_of_getElem? (i := 1720) (by decide +kernel)⟩
theorem lw_p61 : lw_okq (⟨"LeafVotesModel", "bad", "(I)Z"⟩, 57) := ⟨⟨by decide +kernel, by decide +kernel⟩, List.mem_of_getElem? (i := 1475) (by decide +kernel), List.mem_of_getElem? (i := 1723) (by decide +kernel), List.mem_of_getElem? (i := 1724) (by decide +kernel)⟩
theorem lw_p62 : lw_okq (⟨"LeafVotesModel", "takes", "(II)Z"⟩, 57) := ⟨⟨by decide +kernel, by decide +kernel⟩, List.mem_of_getElem? (i := 1475) (by decide +kernel), List.mem_of_getElem? (i := 1727) (by decide +kernel), List.mem_of_getElem? (i := 1728) (by decide +kernel)⟩
theorem lw_p63 : lw_okq (⟨"LeafVotesModel", "looks", "(II)Z"⟩, 57) := ⟨⟨by decide +kernel, by decide +kernel⟩, List.mem_of_getElem? (i := 1475) (by decide +kernel), List.mem_of_getElem? (i := 1731) (by decide +kernel), List.mem_of_getElem? (i := 1732) (by decide +kernel)⟩
def lw_privs_4 : List (MethodName × Nat) := [(⟨"LeafVotes$Sentence", "readPlain", "(LLeafVotes$Tokens;LLeafVotes$Parish;I)V"⟩, 7), (⟨"LeafVotes$Sentence", "treesOfStep", "(ILLeafVotes$Parish;LLeafVotes$Land;)I"⟩, 7), (⟨"LeafVotes$Sentence", "holds", "(IILLeafVotes$Parish;LLeafVotes$Land;)Z"⟩, 7), (⟨"LeafVotes$Sentence", "compares", "(II)Z"⟩, 7), (⟨"java/lang/Throwable", "fillInStackTrace", "(I)Ljava/lang/Throwable;"⟩, 6), (⟨"LeafVotes", "saysOf", "(I)I"⟩, 20), (⟨"LeafVotesModel", "four", "(I)V"⟩, 57), (⟨"LeafVotesModel", "begins", "()V"⟩, 57), (⟨"LeafVotesModel", "taken", "(I)V"⟩, 57), (⟨"LeafVotesModel", "skip", "()V"⟩, 57), (⟨"LeafVotesModel", "peek", "()I"⟩, 57), (⟨"LeafVotesModel", "line", "()Z"⟩, 57), (⟨"LeafVotesModel", "isWord", "(J)Z"⟩, 57), (⟨"LeafVotesModel", "bad", "(I)Z"⟩, 57), (⟨"LeafVotesModel", "takes", "(II)Z"⟩, 57), (⟨"LeafVotesModel", "looks", "(II)Z"⟩, 57)]
theorem lw_r4 : ∀ q ∈ lw_privs_4, lw_okq q := List.forall_mem_cons.mpr ⟨lw_p48, List.forall_mem_cons.mpr ⟨lw_p49, List.forall_mem_cons.mpr ⟨lw_p50, List.forall_mem_cons.mpr ⟨lw_p51, List.forall_mem_cons.mpr ⟨lw_p52, List.forall_mem_cons.mpr ⟨lw_p53, List.forall_mem_cons.mpr ⟨lw_p54, List.forall_mem_cons.mpr ⟨lw_p55, List.forall_mem_cons.mpr ⟨lw_p56, List.forall_mem_cons.mpr ⟨lw_p57, List.forall_mem_cons.mpr ⟨lw_p58, List.forall_mem_cons.mpr ⟨lw_p59, List.forall_mem_cons.mpr ⟨lw_p60, List.forall_mem_cons.mpr ⟨lw_p61, List.forall_mem_cons.mpr ⟨lw_p62, List.forall_mem_cons.mpr ⟨lw_p63, fun _ h => absurd h List.not_mem_nil⟩⟩⟩⟩⟩⟩⟩⟩⟩⟩⟩⟩⟩⟩⟩⟩
theorem lw_p64 : lw_okq (⟨"LeafVotesModel", "fresh", "(I)Z"⟩, 57) := ⟨⟨by decide +kernel, by decide +kernel⟩, List.mem_of_getElem? (i := 1475) (by decide +kernel), List.mem_of_getElem? (i := 1738) (by decide +kernel), List.mem_of_getElem? (i := 1739) (by decide +kernel)⟩
theorem lw_p65 : lw_okq (⟨"LeafVotesModel", "isName", "()Z"⟩, 57) := ⟨⟨by decide +kernel, by decide +kernel⟩, List.mem_of_getElem? (i := 1475) (by decide +kernel), List.mem_of_getElem? (i := 1742) (by decide +kernel), List.mem_of_getElem? (i := 1743) (by decide +kernel)⟩
theorem lw_p66 : lw_okq (⟨"LeafVotesModel", "find", "(II)I"⟩, 57) := ⟨⟨by decide +kernel, by decide +kernel⟩, List.mem_of_getElem? (i := 1475) (by decide +kernel), List.mem_of_getElem? (i := 1746) (by decide +kernel), List.mem_of_getElem? (i := 1747) (by decide +kernel)⟩
theorem lw_p67 : lw_okq (⟨"LeafVotesModel", "readKind", "()Z"⟩, 57) := ⟨⟨by decide +kernel, by decide +kernel⟩, List.mem_of_getElem? (i := 1475) (by decide +kernel), List.mem_of_getElem? (i := 1750) (by decide +kernel), List.mem_of_getElem? (i := 1751) (by decide +kernel)⟩
theorem lw_p68 : lw_okq (⟨"LeafVotesModel", "readWind", "()Z"⟩, 57) := ⟨⟨by decide +kernel, by decide +kernel⟩, List.mem_of_getElem? (i := 1475) (by decide +kernel), List.mem_of_getElem? (i := 1754) (by decide +kernel), List.mem_of_getElem? (i := 1755) (by decide +kernel)⟩
theorem lw_p69 : lw_okq (⟨"LeafVotesModel", "takesWay", "()Z"⟩, 57) := ⟨⟨by decide +kernel, by decide +kernel⟩, List.mem_of_getElem? (i := 1475) (by decide +kernel), List.mem_of_getElem? (i := 1758) (by decide +kernel), List.mem_of_getElem? (i := 1759) (by decide +kernel)⟩
theorem lw_p70 : lw_okq (⟨"LeafVotesModel", "wayOf", "()I"⟩, 57) := ⟨⟨by decide +kernel, by decide +kernel⟩, List.mem_of_getElem? (i := 1475) (by decide +kernel), List.mem_of_getElem? (i := 1762) (by decide +kernel), List.mem_of_getElem? (i := 1763) (by decide +kernel)⟩
theorem lw_p71 : lw_okq (⟨"LeafVotesModel", "takesName", "(II)Z"⟩, 57) := ⟨⟨by decide +kernel, by decide +kernel⟩, List.mem_of_getElem? (i := 1475) (by decide +kernel), List.mem_of_getElem? (i := 1766) (by decide +kernel), List.mem_of_getElem? (i := 1767) (by decide +kernel)⟩
theorem lw_p72 : lw_okq (⟨"LeafVotesModel", "readGround", "(II)Z"⟩, 57) := ⟨⟨by decide +kernel, by decide +kernel⟩, List.mem_of_getElem? (i := 1475) (by decide +kernel), List.mem_of_getElem? (i := 1770) (by decide +kernel), List.mem_of_getElem? (i := 1771) (by decide +kernel)⟩
theorem lw_p73 : lw_okq (⟨"LeafVotesModel", "readThing", "(I)Z"⟩, 57) := ⟨⟨by decide +kernel, by decide +kernel⟩, List.mem_of_getElem? (i := 1475) (by decide +kernel), List.mem_of_getElem? (i := 1774) (by decide +kernel), List.mem_of_getElem? (i := 1775) (by decide +kernel)⟩
theorem lw_p74 : lw_okq (⟨"LeafVotesModel", "sign", "(I)Z"⟩, 57) := ⟨⟨by decide +kernel, by decide +kernel⟩, List.mem_of_getElem? (i := 1475) (by decide +kernel), List.mem_of_getElem? (i := 1778) (by decide +kernel), List.mem_of_getElem? (i := 1779) (by decide +kernel)⟩
theorem lw_p75 : lw_okq (⟨"LeafVotesModel", "isSign", "(I)Z"⟩, 57) := ⟨⟨by decide +kernel, by decide +kernel⟩, List.mem_of_getElem? (i := 1475) (by decide +kernel), List.mem_of_getElem? (i := 1782) (by decide +kernel), List.mem_of_getElem? (i := 1783) (by decide +kernel)⟩
theorem lw_p76 : lw_okq (⟨"LeafVotesModel", "isTree", "(I)Z"⟩, 57) := ⟨⟨by decide +kernel, by decide +kernel⟩, List.mem_of_getElem? (i := 1475) (by decide +kernel), List.mem_of_getElem? (i := 1794) (by decide +kernel), List.mem_of_getElem? (i := 1795) (by decide +kernel)⟩
theorem lw_p77 : lw_okq (⟨"LeafVotesModel", "throwsIf", "(Z)Z"⟩, 57) := ⟨⟨by decide +kernel, by decide +kernel⟩, List.mem_of_getElem? (i := 1475) (by decide +kernel), List.mem_of_getElem? (i := 1798) (by decide +kernel), List.mem_of_getElem? (i := 1799) (by decide +kernel)⟩
theorem lw_p78 : lw_okq (⟨"LeafVotesModel", "leavesOf", "(I)I"⟩, 57) := ⟨⟨by decide +kernel, by decide +kernel⟩, List.mem_of_getElem? (i := 1475) (by decide +kernel), List.mem_of_getElem? (i := 1802) (by decide +kernel), List.mem_of_getElem? (i := 1803) (by decide +kernel)⟩
theorem lw_p79 : lw_okq (⟨"LeafVotesModel", "isAlive", "(I)Z"⟩, 57) := ⟨⟨by decide +kernel, by decide +kernel⟩, List.mem_of_getElem? (i := 1475) (by decide +kernel), List.mem_of_getElem? (i := 1806) (by decide +kernel), List.mem_of_getElem? (i := 1807) (by decide +kernel)⟩
def lw_privs_5 : List (MethodName × Nat) := [(⟨"LeafVotesModel", "fresh", "(I)Z"⟩, 57), (⟨"LeafVotesModel", "isName", "()Z"⟩, 57), (⟨"LeafVotesModel", "find", "(II)I"⟩, 57), (⟨"LeafVotesModel", "readKind", "()Z"⟩, 57), (⟨"LeafVotesModel", "readWind", "()Z"⟩, 57), (⟨"LeafVotesModel", "takesWay", "()Z"⟩, 57), (⟨"LeafVotesModel", "wayOf", "()I"⟩, 57), (⟨"LeafVotesModel", "takesName", "(II)Z"⟩, 57), (⟨"LeafVotesModel", "readGround", "(II)Z"⟩, 57), (⟨"LeafVotesModel", "readThing", "(I)Z"⟩, 57), (⟨"LeafVotesModel", "sign", "(I)Z"⟩, 57), (⟨"LeafVotesModel", "isSign", "(I)Z"⟩, 57), (⟨"LeafVotesModel", "isTree", "(I)Z"⟩, 57), (⟨"LeafVotesModel", "throwsIf", "(Z)Z"⟩, 57), (⟨"LeafVotesModel", "leavesOf", "(I)I"⟩, 57), (⟨"LeafVotesModel", "isAlive", "(I)Z"⟩, 57)]
theorem lw_r5 : ∀ q ∈ lw_privs_5, lw_okq q := List.forall_mem_cons.mpr ⟨lw_p64, List.forall_mem_cons.mpr ⟨lw_p65, List.forall_mem_cons.mpr ⟨lw_p66, List.forall_mem_cons.mpr ⟨lw_p67, List.forall_mem_cons.mpr ⟨lw_p68, List.forall_mem_cons.mpr ⟨lw_p69, List.forall_mem_cons.mpr ⟨lw_p70, List.forall_mem_cons.mpr ⟨lw_p71, List.forall_mem_cons.mpr ⟨lw_p72, List.forall_mem_cons.mpr ⟨lw_p73, List.forall_mem_cons.mpr ⟨lw_p74, List.forall_mem_cons.mpr ⟨lw_p75, List.forall_mem_cons.mpr ⟨lw_p76, List.forall_mem_cons.mpr ⟨lw_p77, List.forall_mem_cons.mpr ⟨lw_p78, List.forall_mem_cons.mpr ⟨lw_p79, fun _ h => absurd h List.not_mem_nil⟩⟩⟩⟩⟩⟩⟩⟩⟩⟩⟩⟩⟩⟩⟩⟩
theorem lw_p80 : lw_okq (⟨"LeafVotesModel", "says", "(I)I"⟩, 57) := ⟨⟨by decide +kernel, by decide +kernel⟩, List.mem_of_getElem? (i := 1475) (by decide +kernel), List.mem_of_getElem? (i := 1813) (by decide +kernel), List.mem_of_getElem? (i := 1814) (by decide +kernel)⟩
theorem lw_p81 : lw_okq (⟨"LeafVotesModel", "hasSay", "(II)Z"⟩, 57) := ⟨⟨by decide +kernel, by decide +kernel⟩, List.mem_of_getElem? (i := 1475) (by decide +kernel), List.mem_of_getElem? (i := 1817) (by decide +kernel), List.mem_of_getElem? (i := 1818) (by decide +kernel)⟩
theorem lw_p82 : lw_okq (⟨"LeafVotesModel", "isCell", "(II)Z"⟩, 57) := ⟨⟨by decide +kernel, by decide +kernel⟩, List.mem_of_getElem? (i := 1475) (by decide +kernel), List.mem_of_getElem? (i := 1825) (by decide +kernel), List.mem_of_getElem? (i := 1826) (by decide +kernel)⟩
theorem lw_p83 : lw_okq (⟨"LeafVotesModel", "ownerOf", "(I)I"⟩, 57) := ⟨⟨by decide +kernel, by decide +kernel⟩, List.mem_of_getElem? (i := 1475) (by decide +kernel), List.mem_of_getElem? (i := 1829) (by decide +kernel), List.mem_of_getElem? (i := 1830) (by decide +kernel)⟩
theorem lw_p84 : lw_okq (⟨"LeafVotesModel", "treeAt", "(II)I"⟩, 57) := ⟨⟨by decide +kernel, by decide +kernel⟩, List.mem_of_getElem? (i := 1475) (by decide +kernel), List.mem_of_getElem? (i := 1833) (by decide +kernel), List.mem_of_getElem? (i := 1834) (by decide +kernel)⟩
theorem lw_p85 : lw_okq (⟨"LeafVotesModel", "isOwner", "(I)Z"⟩, 57) := ⟨⟨by decide +kernel, by decide +kernel⟩, List.mem_of_getElem? (i := 1475) (by decide +kernel), List.mem_of_getElem? (i := 1841) (by decide +kernel), List.mem_of_getElem? (i := 1842) (by decide +kernel)⟩
theorem lw_p86 : lw_okq (⟨"LeafVotesModel", "isStrip", "(I)Z"⟩, 57) := ⟨⟨by decide +kernel, by decide +kernel⟩, List.mem_of_getElem? (i := 1475) (by decide +kernel), List.mem_of_getElem? (i := 1849) (by decide +kernel), List.mem_of_getElem? (i := 1850) (by decide +kernel)⟩
theorem lw_p87 : lw_okq (⟨"LeafVotesModel", "isWind", "(II)Z"⟩, 57) := ⟨⟨by decide +kernel, by decide +kernel⟩, List.mem_of_getElem? (i := 1475) (by decide +kernel), List.mem_of_getElem? (i := 1861) (by decide +kernel), List.mem_of_getElem? (i := 1862) (by decide +kernel)⟩
theorem lw_p88 : lw_okq (⟨"LeafVotesModel", "keep", "()V"⟩, 57) := ⟨⟨by decide +kernel, by decide +kernel⟩, List.mem_of_getElem? (i := 1475) (by decide +kernel), List.mem_of_getElem? (i := 1865) (by decide +kernel), List.mem_of_getElem? (i := 1866) (by decide +kernel)⟩
theorem lw_p89 : lw_okq (⟨"LeafVotesModel", "blows", "(II)V"⟩, 57) := ⟨⟨by decide +kernel, by decide +kernel⟩, List.mem_of_getElem? (i := 1475) (by decide +kernel), List.mem_of_getElem? (i := 1869) (by decide +kernel), List.mem_of_getElem? (i := 1870) (by decide +kernel)⟩
theorem lw_p90 : lw_okq (⟨"LeafVotesModel", "allFall", "(II)V"⟩, 57) := ⟨⟨by decide +kernel, by decide +kernel⟩, List.mem_of_getElem? (i := 1475) (by decide +kernel), List.mem_of_getElem? (i := 1873) (by decide +kernel), List.mem_of_getElem? (i := 1874) (by decide +kernel)⟩
theorem lw_p91 : lw_okq (⟨"LeafVotesModel", "falls", "(IIII)I"⟩, 57) := ⟨⟨by decide +kernel, by decide +kernel⟩, List.mem_of_getElem? (i := 1475) (by decide +kernel), List.mem_of_getElem? (i := 1877) (by decide +kernel), List.mem_of_getElem? (i := 1878) (by decide +kernel)⟩
theorem lw_p92 : lw_okq (⟨"LeafVotesModel", "goesOf", "(III)I"⟩, 57) := ⟨⟨by decide +kernel, by decide +kernel⟩, List.mem_of_getElem? (i := 1475) (by decide +kernel), List.mem_of_getElem? (i := 1881) (by decide +kernel), List.mem_of_getElem? (i := 1882) (by decide +kernel)⟩
theorem lw_p93 : lw_okq (⟨"LeafVotesModel", "speaks", "(III)V"⟩, 57) := ⟨⟨by decide +kernel, by decide +kernel⟩, List.mem_of_getElem? (i := 1475) (by decide +kernel), List.mem_of_getElem? (i := 1885) (by decide +kernel), List.mem_of_getElem? (i := 1886) (by decide +kernel)⟩
theorem lw_p94 : lw_okq (⟨"LeafVotesModel", "voteOf", "(IIII)I"⟩, 57) := ⟨⟨by decide +kernel, by decide +kernel⟩, List.mem_of_getElem? (i := 1475) (by decide +kernel), List.mem_of_getElem? (i := 1889) (by decide +kernel), List.mem_of_getElem? (i := 1890) (by decide +kernel)⟩
theorem lw_p95 : lw_okq (⟨"LeafVotesModel", "mostOf", "()I"⟩, 57) := ⟨⟨by decide +kernel, by decide +kernel⟩, List.mem_of_getElem? (i := 1475) (by decide +kernel), List.mem_of_getElem? (i := 1893) (by decide +kernel), List.mem_of_getElem? (i := 1894) (by decide +kernel)⟩
def lw_privs_6 : List (MethodName × Nat) := [(⟨"LeafVotesModel", "says", "(I)I"⟩, 57), (⟨"LeafVotesModel", "hasSay", "(II)Z"⟩, 57), (⟨"LeafVotesModel", "isCell", "(II)Z"⟩, 57), (⟨"LeafVotesModel", "ownerOf", "(I)I"⟩, 57), (⟨"LeafVotesModel", "treeAt", "(II)I"⟩, 57), (⟨"LeafVotesModel", "isOwner", "(I)Z"⟩, 57), (⟨"LeafVotesModel", "isStrip", "(I)Z"⟩, 57), (⟨"LeafVotesModel", "isWind", "(II)Z"⟩, 57), (⟨"LeafVotesModel", "keep", "()V"⟩, 57), (⟨"LeafVotesModel", "blows", "(II)V"⟩, 57), (⟨"LeafVotesModel", "allFall", "(II)V"⟩, 57), (⟨"LeafVotesModel", "falls", "(IIII)I"⟩, 57), (⟨"LeafVotesModel", "goesOf", "(III)I"⟩, 57), (⟨"LeafVotesModel", "speaks", "(III)V"⟩, 57), (⟨"LeafVotesModel", "voteOf", "(IIII)I"⟩, 57), (⟨"LeafVotesModel", "mostOf", "()I"⟩, 57)]
theorem lw_r6 : ∀ q ∈ lw_privs_6, lw_okq q := List.forall_mem_cons.mpr ⟨lw_p80, List.forall_mem_cons.mpr ⟨lw_p81, List.forall_mem_cons.mpr ⟨lw_p82, List.forall_mem_cons.mpr ⟨lw_p83, List.forall_mem_cons.mpr ⟨lw_p84, List.forall_mem_cons.mpr ⟨lw_p85, List.forall_mem_cons.mpr ⟨lw_p86, List.forall_mem_cons.mpr ⟨lw_p87, List.forall_mem_cons.mpr ⟨lw_p88, List.forall_mem_cons.mpr ⟨lw_p89, List.forall_mem_cons.mpr ⟨lw_p90, List.forall_mem_cons.mpr ⟨lw_p91, List.forall_mem_cons.mpr ⟨lw_p92, List.forall_mem_cons.mpr ⟨lw_p93, List.forall_mem_cons.mpr ⟨lw_p94, List.forall_mem_cons.mpr ⟨lw_p95, fun _ h => absurd h List.not_mem_nil⟩⟩⟩⟩⟩⟩⟩⟩⟩⟩⟩⟩⟩⟩⟩⟩
theorem lw_p96 : lw_okq (⟨"LeafVotesModel", "isKind", "(I)Z"⟩, 57) := ⟨⟨by decide +kernel, by decide +kernel⟩, List.mem_of_getElem? (i := 1475) (by decide +kernel), List.mem_of_getElem? (i := 1901) (by decide +kernel), List.mem_of_getElem? (i := 1902) (by decide +kernel)⟩
theorem lw_p97 : lw_okq (⟨"LeafVotesModel", "whyPlant", "(II)I"⟩, 57) := ⟨⟨by decide +kernel, by decide +kernel⟩, List.mem_of_getElem? (i := 1475) (by decide +kernel), List.mem_of_getElem? (i := 1905) (by decide +kernel), List.mem_of_getElem? (i := 1906) (by decide +kernel)⟩
theorem lw_p98 : lw_okq (⟨"LeafVotesModel", "isTaken", "(II)Z"⟩, 57) := ⟨⟨by decide +kernel, by decide +kernel⟩, List.mem_of_getElem? (i := 1475) (by decide +kernel), List.mem_of_getElem? (i := 1909) (by decide +kernel), List.mem_of_getElem? (i := 1910) (by decide +kernel)⟩
theorem lw_p99 : lw_okq (⟨"LeafVotesModel", "plants", "(III)V"⟩, 57) := ⟨⟨by decide +kernel, by decide +kernel⟩, List.mem_of_getElem? (i := 1475) (by decide +kernel), List.mem_of_getElem? (i := 1913) (by decide +kernel), List.mem_of_getElem? (i := 1914) (by decide +kernel)⟩
theorem lw_p100 : lw_okq (⟨"LeafVotesModel", "whyWall", "(II)I"⟩, 57) := ⟨⟨by decide +kernel, by decide +kernel⟩, List.mem_of_getElem? (i := 1475) (by decide +kernel), List.mem_of_getElem? (i := 1925) (by decide +kernel), List.mem_of_getElem? (i := 1926) (by decide +kernel)⟩
theorem lw_p101 : lw_okq (⟨"LeafVotesModel", "walls", "(II)V"⟩, 57) := ⟨⟨by decide +kernel, by decide +kernel⟩, List.mem_of_getElem? (i := 1475) (by decide +kernel), List.mem_of_getElem? (i := 1929) (by decide +kernel), List.mem_of_getElem? (i := 1930) (by decide +kernel)⟩
theorem lw_p102 : lw_okq (⟨"LeafVotesModel", "chancesOf", "(II)I"⟩, 57) := ⟨⟨by decide +kernel, by decide +kernel⟩, List.mem_of_getElem? (i := 1475) (by decide +kernel), List.mem_of_getElem? (i := 1965) (by decide +kernel), List.mem_of_getElem? (i := 1966) (by decide +kernel)⟩
theorem lw_p103 : lw_okq (⟨"LeafVotesModel", "chances", "()I"⟩, 57) := ⟨⟨by decide +kernel, by decide +kernel⟩, List.mem_of_getElem? (i := 1475) (by decide +kernel), List.mem_of_getElem? (i := 1969) (by decide +kernel), List.mem_of_getElem? (i := 1970) (by decide +kernel)⟩
theorem lw_p104 : lw_okq (⟨"LeafVotesModel", "takesSacks", "()Z"⟩, 57) := ⟨⟨by decide +kernel, by decide +kernel⟩, List.mem_of_getElem? (i := 1475) (by decide +kernel), List.mem_of_getElem? (i := 1984) (by decide +kernel), List.mem_of_getElem? (i := 1985) (by decide +kernel)⟩
theorem lw_p105 : lw_okq (⟨"LeafVotesModel", "areSacks", "()Z"⟩, 57) := ⟨⟨by decide +kernel, by decide +kernel⟩, List.mem_of_getElem? (i := 1475) (by decide +kernel), List.mem_of_getElem? (i := 1988) (by decide +kernel), List.mem_of_getElem? (i := 1989) (by decide +kernel)⟩
theorem lw_p106 : lw_okq (⟨"LeafVotesModel", "octet", "(I)I"⟩, 57) := ⟨⟨by decide +kernel, by decide +kernel⟩, List.mem_of_getElem? (i := 1475) (by decide +kernel), List.mem_of_getElem? (i := 1992) (by decide +kernel), List.mem_of_getElem? (i := 1993) (by decide +kernel)⟩
theorem lw_p107 : lw_okq (⟨"LeafVotesModel", "tries", "()V"⟩, 57) := ⟨⟨by decide +kernel, by decide +kernel⟩, List.mem_of_getElem? (i := 1475) (by decide +kernel), List.mem_of_getElem? (i := 2012) (by decide +kernel), List.mem_of_getElem? (i := 2013) (by decide +kernel)⟩
theorem lw_p108 : lw_okq (⟨"LeafVotesModel", "bestOf", "(IIII)I"⟩, 57) := ⟨⟨by decide +kernel, by decide +kernel⟩, List.mem_of_getElem? (i := 1475) (by decide +kernel), List.mem_of_getElem? (i := 2016) (by decide +kernel), List.mem_of_getElem? (i := 2017) (by decide +kernel)⟩
theorem lw_p109 : lw_okq (⟨"LeafVotesModel", "isFree", "(I)Z"⟩, 57) := ⟨⟨by decide +kernel, by decide +kernel⟩, List.mem_of_getElem? (i := 1475) (by decide +kernel), List.mem_of_getElem? (i := 2020) (by decide +kernel), List.mem_of_getElem? (i := 2021) (by decide +kernel)⟩
theorem lw_p110 : lw_okq (⟨"LeafVotesModel", "triesTree", "(III)V"⟩, 57) := ⟨⟨by decide +kernel, by decide +kernel⟩, List.mem_of_getElem? (i := 1475) (by decide +kernel), List.mem_of_getElem? (i := 2024) (by decide +kernel), List.mem_of_getElem? (i := 2025) (by decide +kernel)⟩
theorem lw_p111 : lw_okq (⟨"LeafVotesModel", "back", "()V"⟩, 57) := ⟨⟨by decide +kernel, by decide +kernel⟩, List.mem_of_getElem? (i := 1475) (by decide +kernel), List.mem_of_getElem? (i := 2028) (by decide +kernel), List.mem_of_getElem? (i := 2029) (by decide +kernel)⟩
def lw_privs_7 : List (MethodName × Nat) := [(⟨"LeafVotesModel", "isKind", "(I)Z"⟩, 57), (⟨"LeafVotesModel", "whyPlant", "(II)I"⟩, 57), (⟨"LeafVotesModel", "isTaken", "(II)Z"⟩, 57), (⟨"LeafVotesModel", "plants", "(III)V"⟩, 57), (⟨"LeafVotesModel", "whyWall", "(II)I"⟩, 57), (⟨"LeafVotesModel", "walls", "(II)V"⟩, 57), (⟨"LeafVotesModel", "chancesOf", "(II)I"⟩, 57), (⟨"LeafVotesModel", "chances", "()I"⟩, 57), (⟨"LeafVotesModel", "takesSacks", "()Z"⟩, 57), (⟨"LeafVotesModel", "areSacks", "()Z"⟩, 57), (⟨"LeafVotesModel", "octet", "(I)I"⟩, 57), (⟨"LeafVotesModel", "tries", "()V"⟩, 57), (⟨"LeafVotesModel", "bestOf", "(IIII)I"⟩, 57), (⟨"LeafVotesModel", "isFree", "(I)Z"⟩, 57), (⟨"LeafVotesModel", "triesTree", "(III)V"⟩, 57), (⟨"LeafVotesModel", "back", "()V"⟩, 57)]
theorem lw_r7 : ∀ q ∈ lw_privs_7, lw_okq q := List.forall_mem_cons.mpr ⟨lw_p96, List.forall_mem_cons.mpr ⟨lw_p97, List.forall_mem_cons.mpr ⟨lw_p98, List.forall_mem_cons.mpr ⟨lw_p99, List.forall_mem_cons.mpr ⟨lw_p100, List.forall_mem_cons.mpr ⟨lw_p101, List.forall_mem_cons.mpr ⟨lw_p102, List.forall_mem_cons.mpr ⟨lw_p103, List.forall_mem_cons.mpr ⟨lw_p104, List.forall_mem_cons.mpr ⟨lw_p105, List.forall_mem_cons.mpr ⟨lw_p106, List.forall_mem_cons.mpr ⟨lw_p107, List.forall_mem_cons.mpr ⟨lw_p108, List.forall_mem_cons.mpr ⟨lw_p109, List.forall_mem_cons.mpr ⟨lw_p110, List.forall_mem_cons.mpr ⟨lw_p111, fun _ h => absurd h List.not_mem_nil⟩⟩⟩⟩⟩⟩⟩⟩⟩⟩⟩⟩⟩⟩⟩⟩
theorem lw_p112 : lw_okq (⟨"LeafVotesModel", "told", "(I)I"⟩, 57) := ⟨⟨by decide +kernel, by decide +kernel⟩, List.mem_of_getElem? (i := 1475) (by decide +kernel), List.mem_of_getElem? (i := 2032) (by decide +kernel), List.mem_of_getElem? (i := 2033) (by decide +kernel)⟩
theorem lw_p113 : lw_okq (⟨"LeafVotesModel", "draws", "(II)I"⟩, 57) := ⟨⟨by decide +kernel, by decide +kernel⟩, List.mem_of_getElem? (i := 1475) (by decide +kernel), List.mem_of_getElem? (i := 2052) (by decide +kernel), List.mem_of_getElem? (i := 2053) (by decide +kernel)⟩
theorem lw_p114 : lw_okq (⟨"LeafVotesModel", "draw", "(I)I"⟩, 57) := ⟨⟨by decide +kernel, by decide +kernel⟩, List.mem_of_getElem? (i := 1475) (by decide +kernel), List.mem_of_getElem? (i := 2056) (by decide +kernel), List.mem_of_getElem? (i := 2057) (by decide +kernel)⟩
theorem lw_p115 : lw_okq (⟨"LeafVotesModel", "rollLine", "()Z"⟩, 57) := ⟨⟨by decide +kernel, by decide +kernel⟩, List.mem_of_getElem? (i := 1475) (by decide +kernel), List.mem_of_getElem? (i := 2069) (by decide +kernel), List.mem_of_getElem? (i := 2070) (by decide +kernel)⟩
theorem lw_p116 : lw_okq (⟨"LeafVotesModel", "does", "(IIII)I"⟩, 57) := ⟨⟨by decide +kernel, by decide +kernel⟩, List.mem_of_getElem? (i := 1475) (by decide +kernel), List.mem_of_getElem? (i := 2073) (by decide +kernel), List.mem_of_getElem? (i := 2074) (by decide +kernel)⟩
theorem lw_p117 : lw_okq (⟨"LeafVotesModel", "nots", "()V"⟩, 57) := ⟨⟨by decide +kernel, by decide +kernel⟩, List.mem_of_getElem? (i := 1475) (by decide +kernel), List.mem_of_getElem? (i := 2085) (by decide +kernel), List.mem_of_getElem? (i := 2086) (by decide +kernel)⟩
theorem lw_p118 : lw_okq (⟨"LeafVotesModel", "code", "(III)V"⟩, 57) := ⟨⟨by decide +kernel, by decide +kernel⟩, List.mem_of_getElem? (i := 1475) (by decide +kernel), List.mem_of_getElem? (i := 2089) (by decide +kernel), List.mem_of_getElem? (i := 2090) (by decide +kernel)⟩
theorem lw_p119 : lw_okq (⟨"LeafVotesModel", "joins", "(I)V"⟩, 57) := ⟨⟨by decide +kernel, by decide +kernel⟩, List.mem_of_getElem? (i := 1475) (by decide +kernel), List.mem_of_getElem? (i := 2093) (by decide +kernel), List.mem_of_getElem? (i := 2094) (by decide +kernel)⟩
theorem lw_p120 : lw_okq (⟨"LeafVotesModel", "behind", "()Z"⟩, 57) := ⟨⟨by decide +kernel, by decide +kernel⟩, List.mem_of_getElem? (i := 1475) (by decide +kernel), List.mem_of_getElem? (i := 2097) (by decide +kernel), List.mem_of_getElem? (i := 2098) (by decide +kernel)⟩
theorem lw_p121 : lw_okq (⟨"LeafVotesModel", "operand", "()Z"⟩, 57) := ⟨⟨by decide +kernel, by decide +kernel⟩, List.mem_of_getElem? (i := 1475) (by decide +kernel), List.mem_of_getElem? (i := 2101) (by decide +kernel), List.mem_of_getElem? (i := 2102) (by decide +kernel)⟩
theorem lw_p122 : lw_okq (⟨"LeafVotesModel", "leafOf", "()I"⟩, 57) := ⟨⟨by decide +kernel, by decide +kernel⟩, List.mem_of_getElem? (i := 1475) (by decide +kernel), List.mem_of_getElem? (i := 2105) (by decide +kernel), List.mem_of_getElem? (i := 2106) (by decide +kernel)⟩
theorem lw_p123 : lw_okq (⟨"LeafVotesModel", "isSaid", "(I)Z"⟩, 57) := ⟨⟨by decide +kernel, by decide +kernel⟩, List.mem_of_getElem? (i := 1475) (by decide +kernel), List.mem_of_getElem? (i := 2113) (by decide +kernel), List.mem_of_getElem? (i := 2114) (by decide +kernel)⟩
theorem lw_p124 : lw_okq (⟨"LeafVotesModel", "isLeaf", "(IIII)Z"⟩, 57) := ⟨⟨by decide +kernel, by decide +kernel⟩, List.mem_of_getElem? (i := 1475) (by decide +kernel), List.mem_of_getElem? (i := 2117) (by decide +kernel), List.mem_of_getElem? (i := 2118) (by decide +kernel)⟩
def lw_privs_8 : List (MethodName × Nat) := [(⟨"LeafVotesModel", "told", "(I)I"⟩, 57), (⟨"LeafVotesModel", "draws", "(II)I"⟩, 57), (⟨"LeafVotesModel", "draw", "(I)I"⟩, 57), (⟨"LeafVotesModel", "rollLine", "()Z"⟩, 57), (⟨"LeafVotesModel", "does", "(IIII)I"⟩, 57), (⟨"LeafVotesModel", "nots", "()V"⟩, 57), (⟨"LeafVotesModel", "code", "(III)V"⟩, 57), (⟨"LeafVotesModel", "joins", "(I)V"⟩, 57), (⟨"LeafVotesModel", "behind", "()Z"⟩, 57), (⟨"LeafVotesModel", "operand", "()Z"⟩, 57), (⟨"LeafVotesModel", "leafOf", "()I"⟩, 57), (⟨"LeafVotesModel", "isSaid", "(I)Z"⟩, 57), (⟨"LeafVotesModel", "isLeaf", "(IIII)Z"⟩, 57)]
theorem lw_r8 : ∀ q ∈ lw_privs_8, lw_okq q := List.forall_mem_cons.mpr ⟨lw_p112, List.forall_mem_cons.mpr ⟨lw_p113, List.forall_mem_cons.mpr ⟨lw_p114, List.forall_mem_cons.mpr ⟨lw_p115, List.forall_mem_cons.mpr ⟨lw_p116, List.forall_mem_cons.mpr ⟨lw_p117, List.forall_mem_cons.mpr ⟨lw_p118, List.forall_mem_cons.mpr ⟨lw_p119, List.forall_mem_cons.mpr ⟨lw_p120, List.forall_mem_cons.mpr ⟨lw_p121, List.forall_mem_cons.mpr ⟨lw_p122, List.forall_mem_cons.mpr ⟨lw_p123, List.forall_mem_cons.mpr ⟨lw_p124, fun _ h => absurd h List.not_mem_nil⟩⟩⟩⟩⟩⟩⟩⟩⟩⟩⟩⟩⟩
def lw_privs : List (MethodName × Nat) := lw_privs_1 ++ (lw_privs_2 ++ (lw_privs_3 ++ (lw_privs_4 ++ (lw_privs_5 ++ (lw_privs_6 ++ (lw_privs_7 ++ (lw_privs_8)))))))
def lw_tbl : List Cond := k2_sels lw_privs ++ tables_1
theorem lw_privs_ok : ∀ q ∈ lw_privs, lw_okq q := by
  show ∀ q ∈ lw_privs_1 ++ (lw_privs_2 ++ (lw_privs_3 ++ (lw_privs_4 ++ (lw_privs_5 ++ (lw_privs_6 ++ (lw_privs_7 ++ (lw_privs_8))))))), lw_okq q
  exact List.forall_mem_append.mpr ⟨lw_r1, List.forall_mem_append.mpr ⟨lw_r2, List.forall_mem_append.mpr ⟨lw_r3, List.forall_mem_append.mpr ⟨lw_r4, List.forall_mem_append.mpr ⟨lw_r5, List.forall_mem_append.mpr ⟨lw_r6, List.forall_mem_append.mpr ⟨lw_r7, lw_r8⟩⟩⟩⟩⟩⟩⟩
def RX0 : String := "LeafVotes$Acts"
def TX0 : u_T := fun k => match k with
  | 0 => ("LeafVotes$Acts", "fall", "LLeafVotes$Fall;", true)
  | _ => ("LeafVotes$Acts", "seed", "I", false)
def tyX0 : Nat → FieldType := fun k => match k with
  | 0 => .object "LeafVotes$Fall"
  | _ => .int
theorem nmX0 : ∀ a, a < 2 → ∀ b, b < 2 → a ≠ b → (TX0 a).2.1 ≠ (TX0 b).2.1 := by decide +kernel
theorem tyX0_ok : ∀ k, k < 2 → parseFieldDescriptor (TX0 k).2.2.1 = some (tyX0 k) := by decide +kernel
def RX1 : String := "LeafVotes$Fall"
def TX1 : u_T := fun k => match k with
  | 0 => ("LeafVotes$Fall", "fallen", "[I", true)
  | 1 => ("LeafVotes$Fall", "vote", "[I", true)
  | 2 => ("LeafVotes$Fall", "voices", "[I", true)
  | 3 => ("LeafVotes$Fall", "sacks", "[I", true)
  | 4 => ("LeafVotes$Fall", "lost", "I", false)
  | 5 => ("LeafVotes$Fall", "parish", "LLeafVotes$Parish;", false)
  | 6 => ("LeafVotes$Fall", "land", "LLeafVotes$Land;", false)
  | 7 => ("LeafVotes$Fall", "way", "I", false)
  | 8 => ("LeafVotes$Fall", "force", "I", false)
  | 9 => ("LeafVotes$Fall", "spot", "[I", true)
  | 10 => ("LeafVotes$Fall", "load", "[I", true)
  | 11 => ("LeafVotes$Fall", "counted", "[I", true)
  | _ => ("LeafVotes$Fall", "tally", "[I", true)
def tyX1 : Nat → FieldType := fun k => match k with
  | 0 => .array .int
  | 1 => .array .int
  | 2 => .array .int
  | 3 => .array .int
  | 4 => .int
  | 5 => .object "LeafVotes$Parish"
  | 6 => .object "LeafVotes$Land"
  | 7 => .int
  | 8 => .int
  | 9 => .array .int
  | 10 => .array .int
  | 11 => .array .int
  | _ => .array .int
theorem nmX1 : ∀ a, a < 13 → ∀ b, b < 13 → a ≠ b → (TX1 a).2.1 ≠ (TX1 b).2.1 := by decide +kernel
theorem tyX1_ok : ∀ k, k < 13 → parseFieldDescriptor (TX1 k).2.2.1 = some (tyX1 k) := by decide +kernel
def RX2 : String := "LeafVotes$History"
def TX2 : u_T := fun k => match k with
  | 0 => ("LeafVotes$History", "kept", "[LLeafVotes$Land;", true)
  | 1 => ("LeafVotes$History", "noted", "LLeafVotes$Land;", false)
  | 2 => ("LeafVotes$History", "first", "I", false)
  | _ => ("LeafVotes$History", "size", "I", false)
def tyX2 : Nat → FieldType := fun k => match k with
  | 0 => .array (.object "LeafVotes$Land")
  | 1 => .object "LeafVotes$Land"
  | 2 => .int
  | _ => .int
theorem nmX2 : ∀ a, a < 4 → ∀ b, b < 4 → a ≠ b → (TX2 a).2.1 ≠ (TX2 b).2.1 := by decide +kernel
theorem tyX2_ok : ∀ k, k < 4 → parseFieldDescriptor (TX2 k).2.2.1 = some (tyX2 k) := by decide +kernel
def RX3 : String := "LeafVotes$Image"
def TX3 : u_T := fun k => match k with
  | 0 => ("LeafVotes$Image", "kept", "Z", false)
  | 1 => ("LeafVotes$Image", "parish", "LLeafVotes$Parish;", true)
  | 2 => ("LeafVotes$Image", "land", "LLeafVotes$Land;", true)
  | _ => ("LeafVotes$Image", "sentence", "LLeafVotes$Sentence;", true)
def tyX3 : Nat → FieldType := fun k => match k with
  | 0 => .boolean
  | 1 => .object "LeafVotes$Parish"
  | 2 => .object "LeafVotes$Land"
  | _ => .object "LeafVotes$Sentence"
theorem nmX3 : ∀ a, a < 4 → ∀ b, b < 4 → a ≠ b → (TX3 a).2.1 ≠ (TX3 b).2.1 := by decide +kernel
theorem tyX3_ok : ∀ k, k < 4 → parseFieldDescriptor (TX3 k).2.2.1 = some (tyX3 k) := by decide +kernel
def RX4 : String := "LeafVotes$Land"
def TX4 : u_T := fun k => match k with
  | 0 => ("LeafVotes$Land", "year", "I", false)
  | 1 => ("LeafVotes$Land", "trees", "I", false)
  | 2 => ("LeafVotes$Land", "alive", "I", false)
  | 3 => ("LeafVotes$Land", "walls", "I", false)
  | 4 => ("LeafVotes$Land", "lost", "I", false)
  | 5 => ("LeafVotes$Land", "kind", "[I", true)
  | 6 => ("LeafVotes$Land", "x", "[I", true)
  | 7 => ("LeafVotes$Land", "y", "[I", true)
  | 8 => ("LeafVotes$Land", "planted", "[I", true)
  | 9 => ("LeafVotes$Land", "voted", "[I", true)
  | 10 => ("LeafVotes$Land", "wallRows", "[I", true)
  | 11 => ("LeafVotes$Land", "rakedRows", "[I", true)
  | 12 => ("LeafVotes$Land", "holder", "[I", true)
  | 13 => ("LeafVotes$Land", "changes", "[I", true)
  | 14 => ("LeafVotes$Land", "sacks", "[I", true)
  | _ => ("LeafVotes$Land", "allSacks", "[I", true)
def tyX4 : Nat → FieldType := fun k => match k with
  | 0 => .int
  | 1 => .int
  | 2 => .int
  | 3 => .int
  | 4 => .int
  | 5 => .array .int
  | 6 => .array .int
  | 7 => .array .int
  | 8 => .array .int
  | 9 => .array .int
  | 10 => .array .int
  | 11 => .array .int
  | 12 => .array .int
  | 13 => .array .int
  | 14 => .array .int
  | _ => .array .int
theorem nmX4 : ∀ a, a < 16 → ∀ b, b < 16 → a ≠ b → (TX4 a).2.1 ≠ (TX4 b).2.1 := by decide +kernel
theorem tyX4_ok : ∀ k, k < 16 → parseFieldDescriptor (TX4 k).2.2.1 = some (tyX4 k) := by decide +kernel
def RX5 : String := "LeafVotes$Parish"
def TX5 : u_T := fun k => match k with
  | 0 => ("LeafVotes$Parish", "wide", "I", false)
  | 1 => ("LeafVotes$Parish", "high", "I", false)
  | 2 => ("LeafVotes$Parish", "owners", "I", false)
  | 3 => ("LeafVotes$Parish", "strips", "I", false)
  | 4 => ("LeafVotes$Parish", "kinds", "I", false)
  | 5 => ("LeafVotes$Parish", "winds", "I", false)
  | 6 => ("LeafVotes$Parish", "evergreens", "I", false)
  | 7 => ("LeafVotes$Parish", "names", "[J", true)
  | 8 => ("LeafVotes$Parish", "cellOwner", "[I", true)
  | 9 => ("LeafVotes$Parish", "cellStrip", "[I", true)
  | 10 => ("LeafVotes$Parish", "stripX", "[I", true)
  | 11 => ("LeafVotes$Parish", "stripY", "[I", true)
  | 12 => ("LeafVotes$Parish", "stripWide", "[I", true)
  | 13 => ("LeafVotes$Parish", "stripHigh", "[I", true)
  | 14 => ("LeafVotes$Parish", "kindLeaves", "[I", true)
  | 15 => ("LeafVotes$Parish", "kindLoud", "[I", true)
  | 16 => ("LeafVotes$Parish", "windWay", "[I", true)
  | 17 => ("LeafVotes$Parish", "windForce", "[I", true)
  | _ => ("LeafVotes$Parish", "windChance", "[I", true)
def tyX5 : Nat → FieldType := fun k => match k with
  | 0 => .int
  | 1 => .int
  | 2 => .int
  | 3 => .int
  | 4 => .int
  | 5 => .int
  | 6 => .int
  | 7 => .array .long
  | 8 => .array .int
  | 9 => .array .int
  | 10 => .array .int
  | 11 => .array .int
  | 12 => .array .int
  | 13 => .array .int
  | 14 => .array .int
  | 15 => .array .int
  | 16 => .array .int
  | 17 => .array .int
  | _ => .array .int
theorem nmX5 : ∀ a, a < 19 → ∀ b, b < 19 → a ≠ b → (TX5 a).2.1 ≠ (TX5 b).2.1 := by decide +kernel
theorem tyX5_ok : ∀ k, k < 19 → parseFieldDescriptor (TX5 k).2.2.1 = some (tyX5 k) := by decide +kernel
def RX6 : String := "LeafVotes$ParishReader"
def TX6 : u_T := fun k => match k with
  | 0 => ("LeafVotes$ParishReader", "tokens", "LLeafVotes$Tokens;", true)
  | 1 => ("LeafVotes$ParishReader", "parish", "LLeafVotes$Parish;", false)
  | 2 => ("LeafVotes$ParishReader", "land", "LLeafVotes$Land;", false)
  | 3 => ("LeafVotes$ParishReader", "sized", "Z", false)
  | _ => ("LeafVotes$ParishReader", "fields", "I", false)
def tyX6 : Nat → FieldType := fun k => match k with
  | 0 => .object "LeafVotes$Tokens"
  | 1 => .object "LeafVotes$Parish"
  | 2 => .object "LeafVotes$Land"
  | 3 => .boolean
  | _ => .int
theorem nmX6 : ∀ a, a < 5 → ∀ b, b < 5 → a ≠ b → (TX6 a).2.1 ≠ (TX6 b).2.1 := by decide +kernel
theorem tyX6_ok : ∀ k, k < 5 → parseFieldDescriptor (TX6 k).2.2.1 = some (tyX6 k) := by decide +kernel
def RX7 : String := "LeafVotes$Planner"
def TX7 : u_T := fun k => match k with
  | 0 => ("LeafVotes$Planner", "bestCell", "I", false)
  | 1 => ("LeafVotes$Planner", "fall", "LLeafVotes$Fall;", true)
  | 2 => ("LeafVotes$Planner", "parish", "LLeafVotes$Parish;", false)
  | 3 => ("LeafVotes$Planner", "land", "LLeafVotes$Land;", true)
  | 4 => ("LeafVotes$Planner", "strip", "I", false)
  | 5 => ("LeafVotes$Planner", "freeCells", "I", false)
  | 6 => ("LeafVotes$Planner", "free", "[Z", true)
  | 7 => ("LeafVotes$Planner", "scores", "[I", true)
  | 8 => ("LeafVotes$Planner", "voices", "[I", true)
  | 9 => ("LeafVotes$Planner", "ballots", "[I", true)
  | 10 => ("LeafVotes$Planner", "heirs", "[I", true)
  | _ => ("LeafVotes$Planner", "row", "[I", true)
def tyX7 : Nat → FieldType := fun k => match k with
  | 0 => .int
  | 1 => .object "LeafVotes$Fall"
  | 2 => .object "LeafVotes$Parish"
  | 3 => .object "LeafVotes$Land"
  | 4 => .int
  | 5 => .int
  | 6 => .array .boolean
  | 7 => .array .int
  | 8 => .array .int
  | 9 => .array .int
  | 10 => .array .int
  | _ => .array .int
theorem nmX7 : ∀ a, a < 12 → ∀ b, b < 12 → a ≠ b → (TX7 a).2.1 ≠ (TX7 b).2.1 := by decide +kernel
theorem tyX7_ok : ∀ k, k < 12 → parseFieldDescriptor (TX7 k).2.2.1 = some (tyX7 k) := by decide +kernel
def RX8 : String := "LeafVotes$Roll"
def TX8 : u_T := fun k => match k with
  | 0 => ("LeafVotes$Roll", "judged", "Z", false)
  | 1 => ("LeafVotes$Roll", "why", "I", false)
  | 2 => ("LeafVotes$Roll", "right", "I", false)
  | 3 => ("LeafVotes$Roll", "year", "I", false)
  | 4 => ("LeafVotes$Roll", "holder", "I", false)
  | 5 => ("LeafVotes$Roll", "size", "I", false)
  | 6 => ("LeafVotes$Roll", "deed", "[I", true)
  | 7 => ("LeafVotes$Roll", "one", "[I", true)
  | 8 => ("LeafVotes$Roll", "two", "[I", true)
  | _ => ("LeafVotes$Roll", "three", "[I", true)
def tyX8 : Nat → FieldType := fun k => match k with
  | 0 => .boolean
  | 1 => .int
  | 2 => .int
  | 3 => .int
  | 4 => .int
  | 5 => .int
  | 6 => .array .int
  | 7 => .array .int
  | 8 => .array .int
  | _ => .array .int
theorem nmX8 : ∀ a, a < 10 → ∀ b, b < 10 → a ≠ b → (TX8 a).2.1 ≠ (TX8 b).2.1 := by decide +kernel
theorem tyX8_ok : ∀ k, k < 10 → parseFieldDescriptor (TX8 k).2.2.1 = some (tyX8 k) := by decide +kernel
def RX9 : String := "LeafVotes$Sentence"
def TX9 : u_T := fun k => match k with
  | 0 => ("LeafVotes$Sentence", "told", "Z", false)
  | 1 => ("LeafVotes$Sentence", "ones", "I", false)
  | 2 => ("LeafVotes$Sentence", "size", "I", false)
  | 3 => ("LeafVotes$Sentence", "step", "[I", true)
  | 4 => ("LeafVotes$Sentence", "sign", "[I", true)
  | 5 => ("LeafVotes$Sentence", "number", "[I", true)
  | _ => ("LeafVotes$Sentence", "stack", "[I", true)
def tyX9 : Nat → FieldType := fun k => match k with
  | 0 => .boolean
  | 1 => .int
  | 2 => .int
  | 3 => .array .int
  | 4 => .array .int
  | 5 => .array .int
  | _ => .array .int
theorem nmX9 : ∀ a, a < 7 → ∀ b, b < 7 → a ≠ b → (TX9 a).2.1 ≠ (TX9 b).2.1 := by decide +kernel
theorem tyX9_ok : ∀ k, k < 7 → parseFieldDescriptor (TX9 k).2.2.1 = some (tyX9 k) := by decide +kernel
def RX10 : String := "LeafVotes$Tokens"
def TX10 : u_T := fun k => match k with
  | 0 => ("LeafVotes$Tokens", "codes", "[J", true)
  | 1 => ("LeafVotes$Tokens", "bytes", "[I", false)
  | 2 => ("LeafVotes$Tokens", "length", "I", false)
  | 3 => ("LeafVotes$Tokens", "most", "I", false)
  | 4 => ("LeafVotes$Tokens", "next", "I", false)
  | 5 => ("LeafVotes$Tokens", "place", "I", false)
  | 6 => ("LeafVotes$Tokens", "sort", "I", false)
  | 7 => ("LeafVotes$Tokens", "value", "I", false)
  | 8 => ("LeafVotes$Tokens", "name", "J", false)
  | 9 => ("LeafVotes$Tokens", "fault", "I", false)
  | _ => ("LeafVotes$Tokens", "faultPlace", "I", false)
def tyX10 : Nat → FieldType := fun k => match k with
  | 0 => .array .long
  | 1 => .array .int
  | 2 => .int
  | 3 => .int
  | 4 => .int
  | 5 => .int
  | 6 => .int
  | 7 => .int
  | 8 => .long
  | 9 => .int
  | _ => .int
theorem nmX10 : ∀ a, a < 11 → ∀ b, b < 11 → a ≠ b → (TX10 a).2.1 ≠ (TX10 b).2.1 := by decide +kernel
theorem tyX10_ok : ∀ k, k < 11 → parseFieldDescriptor (TX10 k).2.2.1 = some (tyX10 k) := by decide +kernel
def RX11 : String := "LeafVotes"
def TX11 : u_T := fun k => match k with
  | 0 => ("LeafVotes", "tape", "[I", true)
  | 1 => ("LeafVotes", "tapeLength", "I", false)
  | 2 => ("LeafVotes", "lastFault", "I", false)
  | 3 => ("LeafVotes", "firstWind", "I", false)
  | 4 => ("LeafVotes", "firstRaked", "I", false)
  | 5 => ("LeafVotes", "bestCell", "I", false)
  | 6 => ("LeafVotes", "parish", "LLeafVotes$Parish;", false)
  | 7 => ("LeafVotes", "spareParish", "LLeafVotes$Parish;", false)
  | 8 => ("LeafVotes", "land", "LLeafVotes$Land;", false)
  | 9 => ("LeafVotes", "spareLand", "LLeafVotes$Land;", false)
  | 10 => ("LeafVotes", "sentence", "LLeafVotes$Sentence;", false)
  | 11 => ("LeafVotes", "spareSentence", "LLeafVotes$Sentence;", false)
  | 12 => ("LeafVotes", "images", "[LLeafVotes$Image;", true)
  | 13 => ("LeafVotes", "history", "LLeafVotes$History;", true)
  | 14 => ("LeafVotes", "tokens", "LLeafVotes$Tokens;", true)
  | 15 => ("LeafVotes", "reader", "LLeafVotes$ParishReader;", true)
  | 16 => ("LeafVotes", "lines", "LLeafVotes$Roll;", true)
  | 17 => ("LeafVotes", "fall", "LLeafVotes$Fall;", true)
  | 18 => ("LeafVotes", "acts", "LLeafVotes$Acts;", true)
  | _ => ("LeafVotes", "planner", "LLeafVotes$Planner;", true)
def tyX11 : Nat → FieldType := fun k => match k with
  | 0 => .array .int
  | 1 => .int
  | 2 => .int
  | 3 => .int
  | 4 => .int
  | 5 => .int
  | 6 => .object "LeafVotes$Parish"
  | 7 => .object "LeafVotes$Parish"
  | 8 => .object "LeafVotes$Land"
  | 9 => .object "LeafVotes$Land"
  | 10 => .object "LeafVotes$Sentence"
  | 11 => .object "LeafVotes$Sentence"
  | 12 => .array (.object "LeafVotes$Image")
  | 13 => .object "LeafVotes$History"
  | 14 => .object "LeafVotes$Tokens"
  | 15 => .object "LeafVotes$ParishReader"
  | 16 => .object "LeafVotes$Roll"
  | 17 => .object "LeafVotes$Fall"
  | 18 => .object "LeafVotes$Acts"
  | _ => .object "LeafVotes$Planner"
theorem nmX11 : ∀ a, a < 20 → ∀ b, b < 20 → a ≠ b → (TX11 a).2.1 ≠ (TX11 b).2.1 := by decide +kernel
theorem tyX11_ok : ∀ k, k < 20 → parseFieldDescriptor (TX11 k).2.2.1 = some (tyX11 k) := by decide +kernel
def RX12 : String := "LeafVotesModel"
def TX12 : u_T := fun k => match k with
  | 0 => ("LeafVotesModel", "thrown", "I", false)
  | 1 => ("LeafVotesModel", "tape", "[B", true)
  | 2 => ("LeafVotesModel", "length", "I", false)
  | 3 => ("LeafVotesModel", "size", "I", false)
  | 4 => ("LeafVotesModel", "p", "I", false)
  | 5 => ("LeafVotesModel", "limit", "I", false)
  | 6 => ("LeafVotesModel", "s", "[I", true)
  | 7 => ("LeafVotesModel", "h", "[I", true)
  | 8 => ("LeafVotesModel", "read", "[I", true)
  | 9 => ("LeafVotesModel", "names", "[J", true)
  | 10 => ("LeafVotesModel", "reserved", "[J", true)
  | 11 => ("LeafVotesModel", "token", "I", false)
  | 12 => ("LeafVotesModel", "at", "I", false)
  | 13 => ("LeafVotesModel", "span", "I", false)
  | 14 => ("LeafVotesModel", "number", "I", false)
  | 15 => ("LeafVotesModel", "fault", "I", false)
  | 16 => ("LeafVotesModel", "faultAt", "I", false)
  | 17 => ("LeafVotesModel", "word", "J", false)
  | 18 => ("LeafVotesModel", "got", "I", false)
  | 19 => ("LeafVotesModel", "lines", "I", false)
  | 20 => ("LeafVotesModel", "fields", "I", false)
  | 21 => ("LeafVotesModel", "way", "I", false)
  | 22 => ("LeafVotesModel", "x0", "I", false)
  | 23 => ("LeafVotesModel", "y0", "I", false)
  | 24 => ("LeafVotesModel", "w0", "I", false)
  | 25 => ("LeafVotesModel", "h0", "I", false)
  | 26 => ("LeafVotesModel", "sized", "Z", false)
  | 27 => ("LeafVotesModel", "tried", "I", false)
  | 28 => ("LeafVotesModel", "triedLeaves", "I", false)
  | 29 => ("LeafVotesModel", "counts", "[I", true)
  | 30 => ("LeafVotesModel", "voices", "[I", true)
  | 31 => ("LeafVotesModel", "sacks", "[I", true)
  | 32 => ("LeafVotesModel", "lostNow", "I", false)
  | 33 => ("LeafVotesModel", "heldThen", "[I", true)
  | 34 => ("LeafVotesModel", "undone", "[I", true)
  | 35 => ("LeafVotesModel", "before", "[I", true)
  | 36 => ("LeafVotesModel", "undoMany", "I", false)
  | 37 => ("LeafVotesModel", "windFirst", "I", false)
  | 38 => ("LeafVotesModel", "rakedFirst", "I", false)
  | 39 => ("LeafVotesModel", "hasWind", "Z", false)
  | 40 => ("LeafVotesModel", "hasRaked", "Z", false)
  | 41 => ("LeafVotesModel", "bestCell", "I", false)
  | 42 => ("LeafVotesModel", "hasCell", "Z", false)
  | 43 => ("LeafVotesModel", "seed", "I", false)
  | 44 => ("LeafVotesModel", "told", "I", false)
  | 45 => ("LeafVotesModel", "rolledAt", "[I", true)
  | 46 => ("LeafVotesModel", "hasRolled", "Z", false)
  | 47 => ("LeafVotesModel", "stack", "[I", true)
  | 48 => ("LeafVotesModel", "codes", "I", false)
  | 49 => ("LeafVotesModel", "ones", "I", false)
  | 50 => ("LeafVotesModel", "top", "I", false)
  | 51 => ("LeafVotesModel", "deep", "I", false)
  | 52 => ("LeafVotesModel", "isWhole", "Z", false)
  | 53 => ("LeafVotesModel", "truths", "[Z", true)
  | 54 => ("LeafVotesModel", "kept", "[I", true)
  | 55 => ("LeafVotesModel", "namesKept", "[J", true)
  | _ => ("LeafVotesModel", "areKept", "[Z", true)
def tyX12 : Nat → FieldType := fun k => match k with
  | 0 => .int
  | 1 => .array .byte
  | 2 => .int
  | 3 => .int
  | 4 => .int
  | 5 => .int
  | 6 => .array .int
  | 7 => .array .int
  | 8 => .array .int
  | 9 => .array .long
  | 10 => .array .long
  | 11 => .int
  | 12 => .int
  | 13 => .int
  | 14 => .int
  | 15 => .int
  | 16 => .int
  | 17 => .long
  | 18 => .int
  | 19 => .int
  | 20 => .int
  | 21 => .int
  | 22 => .int
  | 23 => .int
  | 24 => .int
  | 25 => .int
  | 26 => .boolean
  | 27 => .int
  | 28 => .int
  | 29 => .array .int
  | 30 => .array .int
  | 31 => .array .int
  | 32 => .int
  | 33 => .array .int
  | 34 => .array .int
  | 35 => .array .int
  | 36 => .int
  | 37 => .int
  | 38 => .int
  | 39 => .boolean
  | 40 => .boolean
  | 41 => .int
  | 42 => .boolean
  | 43 => .int
  | 44 => .int
  | 45 => .array .int
  | 46 => .boolean
  | 47 => .array .int
  | 48 => .int
  | 49 => .int
  | 50 => .int
  | 51 => .int
  | 52 => .boolean
  | 53 => .array .boolean
  | 54 => .array .int
  | 55 => .array .long
  | _ => .array .boolean
theorem nmX12 : ∀ a, a < 57 → ∀ b, b < 57 → a ≠ b → (TX12 a).2.1 ≠ (TX12 b).2.1 := by decide +kernel
theorem tyX12_ok : ∀ k, k < 57 → parseFieldDescriptor (TX12 k).2.2.1 = some (tyX12 k) := by decide +kernel
abbrev vwCl : List vw_C := [(RX0, TX0, 2), (RX1, TX1, 13), (RX2, TX2, 4), (RX3, TX3, 4), (RX4, TX4, 16), (RX5, TX5, 19), (RX6, TX6, 5), (RX7, TX7, 12), (RX8, TX8, 10), (RX9, TX9, 7), (RX10, TX10, 11), (RX11, TX11, 20), (RX12, TX12, 57)]
def eCns : List String := ["LeafVotes$Acts", "LeafVotes$Fall", "LeafVotes$History", "LeafVotes$Image", "LeafVotes$Land", "LeafVotes$Parish", "LeafVotes$ParishReader", "LeafVotes$Planner", "LeafVotes$Roll", "LeafVotes$Sentence", "LeafVotes$Tokens", "LeafVotes", "LeafVotesModel", "LeafVotesLaw", "java/util/Arrays", "java/lang/Integer", "java/lang/Math", "java/lang/String", "java/lang/StringLatin1", "java/lang/StringUTF16", "jdk/internal/util/Preconditions", "java/lang/System", "LeafVotesLaw"]
def eCn (k : Nat) : String := eCns.getD k ""
def eTx : String := "size owner field strip kind tree wall wind still north east south west ever blows plants fells walls rakes or and not alive of for by x y leaves number "
def eTxL : List Nat := [152]
def eTxB : List (List Int32) := [[115, 105, 122, 101, 32, 111, 119, 110, 101, 114, 32, 102, 105, 101, 108, 100, 32, 115, 116, 114, 105, 112, 32, 107, 105, 110, 100, 32, 116, 114, 101, 101, 32, 119, 97, 108, 108, 32, 119, 105, 110, 100, 32, 115, 116, 105, 108, 108, 32, 110, 111, 114, 116, 104, 32, 101, 97, 115, 116, 32, 115, 111, 117, 116, 104, 32, 119, 101, 115, 116, 32, 101, 118, 101, 114, 32, 98, 108, 111, 119, 115, 32, 112, 108, 97, 110, 116, 115, 32, 102, 101, 108, 108, 115, 32, 119, 97, 108, 108, 115, 32, 114, 97, 107, 101, 115, 32, 111, 114, 32, 97, 110, 100, 32, 110, 111, 116, 32, 97, 108, 105, 118, 101, 32, 111, 102, 32, 102, 111, 114, 32, 98, 121, 32, 120, 32, 121, 32, 108, 101, 97, 118, 101, 115, 32, 110, 117, 109, 98, 101, 114, 32]]
def eTxN : List Nat := [115, 105, 122, 101, 32, 111, 119, 110, 101, 114, 32, 102, 105, 101, 108, 100, 32, 115, 116, 114, 105, 112, 32, 107, 105, 110, 100, 32, 116, 114, 101, 101, 32, 119, 97, 108, 108, 32, 119, 105, 110, 100, 32, 115, 116, 105, 108, 108, 32, 110, 111, 114, 116, 104, 32, 101, 97, 115, 116, 32, 115, 111, 117, 116, 104, 32, 119, 101, 115, 116, 32, 101, 118, 101, 114, 32, 98, 108, 111, 119, 115, 32, 112, 108, 97, 110, 116, 115, 32, 102, 101, 108, 108, 115, 32, 119, 97, 108, 108, 115, 32, 114, 97, 107, 101, 115, 32, 111, 114, 32, 97, 110, 100, 32, 110, 111, 116, 32, 97, 108, 105, 118, 101, 32, 111, 102, 32, 102, 111, 114, 32, 98, 121, 32, 120, 32, 121, 32, 108, 101, 97, 118, 101, 115, 32, 110, 117, 109, 98, 101, 114, 32]
def eNw : List Jvm.Cond := [(Jvm.Cond.methodLinkNest "LeafVotes" (45 : Nat) ({ cls := "LeafVotes$Sentence", name := "<init>", desc := "()V" } : Jvm.MethodName) "LeafVotes"), (Jvm.Cond.methodLinkNest "LeafVotes" (84 : Nat) ({ cls := "LeafVotes$Roll", name := "<init>", desc := "()V" } : Jvm.MethodName) "LeafVotes"), (Jvm.Cond.methodLinkNest "LeafVotes" (116 : Nat) ({ cls := "LeafVotes$Image", name := "<init>", desc := "()V" } : Jvm.MethodName) "LeafVotes"), (Jvm.Cond.methodLinkNest "LeafVotes$Image" (25 : Nat) ({ cls := "LeafVotes$Sentence", name := "<init>", desc := "()V" } : Jvm.MethodName) "LeafVotes")]
def eNg : List Jvm.Cond := [(Jvm.Cond.fieldLinkNest "LeafVotes$Fall" (90 : Nat) "LeafVotes" "EAST_STEP" "[I" "LeafVotes"), (Jvm.Cond.fieldLinkNest "LeafVotes$Fall" (93 : Nat) "LeafVotes" "SOUTH_STEP" "[I" "LeafVotes"), (Jvm.Cond.fieldLinkNest "LeafVotes$Planner" (175 : Nat) "LeafVotes" "EAST_STEP" "[I" "LeafVotes"), (Jvm.Cond.fieldLinkNest "LeafVotes$Planner" (178 : Nat) "LeafVotes" "SOUTH_STEP" "[I" "LeafVotes")]
end EvNames
