section EvTabs
abbrev evM : Type := MethodName × ByteArray × Nat × Option FieldType × Nat × Nat × Nat × Nat × Lean.RArray (Nat × Instr × Nat)
/-- the methods: name, code, locals, what it returns; the number of its class, how many arguments, cells and slots that it may make -/
noncomputable def eMs0 : List evM := [(⟨"LeafVotes", "<init>", "()V"⟩, prog_1_method_1_code, 2, (Option.none : Option FieldType), 11, 1, 1500, 40000, eD0),
  (⟨"LeafVotes$Parish", "<init>", "()V"⟩, prog_7_method_1_code, 1, (Option.none : Option FieldType), 5, 1, 20, 400, eD1),
  (⟨"java/util/Arrays", "fill", "([II)V"⟩, prog_29_method_103_code, 4, (Option.none : Option FieldType), 14, 2, 0, 0, eD2),
  (⟨"LeafVotes$Land", "<init>", "()V"⟩, prog_6_method_1_code, 1, (Option.none : Option FieldType), 4, 1, 20, 300, eD3),
  (⟨"LeafVotes$Sentence", "<init>", "()V"⟩, prog_11_method_1_code, 1, (Option.none : Option FieldType), 9, 1, 10, 300, eD4),
  (⟨"LeafVotes$History", "<init>", "()V"⟩, prog_4_method_1_code, 2, (Option.none : Option FieldType), 2, 1, 250, 4000, eD5),
  (⟨"LeafVotes$Tokens", "<init>", "()V"⟩, prog_12_method_1_code, 6, (Option.none : Option FieldType), 10, 1, 10, 60, eD6),
  (⟨"java/lang/String", "length", "()I"⟩, prog_22_method_54_code, 1, (Option.some FieldType.int), 17, 1, 0, 0, eD7),
  (⟨"java/lang/String", "coder", "()B"⟩, prog_22_method_152_code, 1, (Option.some FieldType.byte), 17, 1, 0, 0, eD8),
  (⟨"java/lang/String", "charAt", "(I)C"⟩, prog_22_method_56_code, 2, (Option.some FieldType.char), 17, 2, 0, 0, eD9),
  (⟨"java/lang/String", "isLatin1", "()Z"⟩, prog_22_method_154_code, 1, (Option.some FieldType.boolean), 17, 1, 0, 0, eD10),
  (⟨"java/lang/StringLatin1", "charAt", "([BI)C"⟩, prog_23_method_2_code, 2, (Option.some FieldType.char), 18, 2, 0, 0, eD11),
  (⟨"java/lang/String", "checkIndex", "(II)V"⟩, prog_22_method_155_code, 2, (Option.none : Option FieldType), 17, 2, 0, 0, eD12),
  (⟨"jdk/internal/util/Preconditions", "checkIndex", "(IILjava/util/function/BiFunction;)I"⟩, prog_31_method_11_code, 3, (Option.some FieldType.int), 20, 3, 0, 0, eD13),
  (⟨"java/lang/StringUTF16", "charAt", "([BI)C"⟩, prog_24_method_83_code, 2, (Option.some FieldType.char), 19, 2, 0, 0, eD14),
  (⟨"java/lang/StringUTF16", "checkIndex", "(I[B)V"⟩, prog_24_method_91_code, 2, (Option.none : Option FieldType), 19, 2, 0, 0, eD15),
  (⟨"java/lang/StringUTF16", "length", "([B)I"⟩, prog_24_method_6_code, 1, (Option.some FieldType.int), 19, 1, 0, 0, eD16),
  (⟨"java/lang/StringUTF16", "getChar", "([BI)C"⟩, prog_24_method_5_code, 2, (Option.some FieldType.char), 19, 2, 0, 0, eD17),
  (⟨"LeafVotes$ParishReader", "<init>", "(LLeafVotes$Tokens;LLeafVotes$Parish;LLeafVotes$Land;)V"⟩, prog_8_method_1_code, 4, (Option.none : Option FieldType), 6, 4, 1, 1, eD18),
  (⟨"LeafVotes$Roll", "<init>", "()V"⟩, prog_10_method_1_code, 1, (Option.none : Option FieldType), 8, 1, 10, 300, eD19),
  (⟨"LeafVotes$Fall", "<init>", "(LLeafVotes$Parish;LLeafVotes$Land;)V"⟩, prog_3_method_1_code, 3, (Option.none : Option FieldType), 1, 3, 20, 600, eD20),
  (⟨"LeafVotes$Acts", "<init>", "(LLeafVotes$Fall;)V"⟩, prog_2_method_1_code, 2, (Option.none : Option FieldType), 0, 2, 1, 1, eD21),
  (⟨"LeafVotes$Planner", "<init>", "(LLeafVotes$Fall;LLeafVotes$Parish;)V"⟩, prog_9_method_1_code, 3, (Option.none : Option FieldType), 7, 3, 80, 9000, eD22),
  (⟨"LeafVotes$Image", "<init>", "()V"⟩, prog_5_method_1_code, 1, (Option.none : Option FieldType), 3, 1, 80, 1500, eD23),
  (⟨"LeafVotes", "feed", "(IIIII)I"⟩, prog_1_method_2_code, 6, (Option.some FieldType.int), 11, 6, 0, 0, eD24),
  (⟨"LeafVotes", "putBytes", "(I)V"⟩, prog_1_method_3_code, 3, (Option.none : Option FieldType), 11, 2, 0, 0, eD25),
  (⟨"LeafVotes", "end", "(I)Z"⟩, prog_1_method_4_code, 2, (Option.some FieldType.boolean), 11, 2, 0, 0, eD26),
  (⟨"LeafVotes", "parish", "()I"⟩, prog_1_method_5_code, 4, (Option.some FieldType.int), 11, 1, 0, 0, eD27),
  (⟨"LeafVotes", "openTape", "(I)V"⟩, prog_1_method_6_code, 2, (Option.none : Option FieldType), 11, 2, 0, 0, eD28),
  (⟨"LeafVotes$Tokens", "open", "([III)V"⟩, prog_12_method_2_code, 4, (Option.none : Option FieldType), 10, 4, 0, 0, eD29),
  (⟨"LeafVotes", "<init>", "()V"⟩, prog_1_method_1_code, 2, (Option.none : Option FieldType), 11, 1, 1500, 40000, eD0),
  (⟨"LeafVotes$ParishReader", "read", "(LLeafVotes$Parish;LLeafVotes$Land;)I"⟩, prog_8_method_2_code, 4, (Option.some FieldType.int), 6, 3, 0, 0, eD31)]
noncomputable def eMs1 : List evM := [(⟨"LeafVotes$Parish", "clear", "()V"⟩, prog_7_method_2_code, 1, (Option.none : Option FieldType), 5, 1, 0, 0, eD32),
  (⟨"java/util/Arrays", "fill", "([JJ)V"⟩, prog_29_method_101_code, 5, (Option.none : Option FieldType), 14, 2, 0, 0, eD33),
  (⟨"LeafVotes$Land", "clear", "()V"⟩, prog_6_method_2_code, 1, (Option.none : Option FieldType), 4, 1, 0, 0, eD34),
  (⟨"LeafVotes$Tokens", "advance", "()V"⟩, prog_12_method_4_code, 1, (Option.none : Option FieldType), 10, 1, 0, 0, eD35),
  (⟨"LeafVotes$Tokens", "fail", "(I)V"⟩, prog_12_method_3_code, 2, (Option.none : Option FieldType), 10, 2, 0, 0, eD36),
  (⟨"LeafVotes$Tokens", "readMark", "()V"⟩, prog_12_method_5_code, 2, (Option.none : Option FieldType), 10, 1, 0, 0, eD37),
  (⟨"LeafVotes$Tokens", "readRun", "()V"⟩, prog_12_method_6_code, 7, (Option.none : Option FieldType), 10, 1, 0, 0, eD38),
  (⟨"LeafVotes$Tokens", "wordOf", "(J)I"⟩, prog_12_method_7_code, 4, (Option.some FieldType.int), 10, 2, 0, 0, eD39),
  (⟨"LeafVotes$Tokens", "word", "()I"⟩, prog_12_method_12_code, 1, (Option.some FieldType.int), 10, 1, 0, 0, eD40),
  (⟨"LeafVotes$ParishReader", "readSize", "()V"⟩, prog_8_method_3_code, 3, (Option.none : Option FieldType), 6, 1, 0, 0, eD41),
  (⟨"LeafVotes$Tokens", "number", "(II)I"⟩, prog_12_method_13_code, 3, (Option.some FieldType.int), 10, 3, 0, 0, eD42),
  (⟨"LeafVotes$ParishReader", "readOwner", "()V"⟩, prog_8_method_4_code, 1, (Option.none : Option FieldType), 6, 1, 0, 0, eD43),
  (⟨"LeafVotes$ParishReader", "readNewName", "(I)V"⟩, prog_8_method_5_code, 2, (Option.none : Option FieldType), 6, 2, 0, 0, eD44),
  (⟨"LeafVotes$Tokens", "isName", "()Z"⟩, prog_12_method_8_code, 1, (Option.some FieldType.boolean), 10, 1, 0, 0, eD45),
  (⟨"LeafVotes$Parish", "slotOf", "(J)I"⟩, prog_7_method_7_code, 4, (Option.some FieldType.int), 5, 2, 0, 0, eD46),
  (⟨"LeafVotes$ParishReader", "readField", "()V"⟩, prog_8_method_6_code, 2, (Option.none : Option FieldType), 6, 1, 0, 0, eD47),
  (⟨"LeafVotes$Tokens", "oldName", "(LLeafVotes$Parish;II)I"⟩, prog_12_method_15_code, 5, (Option.some FieldType.int), 10, 4, 0, 0, eD48),
  (⟨"LeafVotes$ParishReader", "readArea", "(II)V"⟩, prog_8_method_8_code, 9, (Option.none : Option FieldType), 6, 3, 0, 0, eD49),
  (⟨"LeafVotes$ParishReader", "isAnyTaken", "(IIII)Z"⟩, prog_8_method_9_code, 7, (Option.some FieldType.boolean), 6, 5, 0, 0, eD50),
  (⟨"LeafVotes$Parish", "isTaken", "(I)Z"⟩, prog_7_method_6_code, 2, (Option.some FieldType.boolean), 5, 2, 0, 0, eD51),
  (⟨"LeafVotes$ParishReader", "readStrip", "()V"⟩, prog_8_method_7_code, 1, (Option.none : Option FieldType), 6, 1, 0, 0, eD52),
  (⟨"LeafVotes$ParishReader", "readKind", "()V"⟩, prog_8_method_10_code, 3, (Option.none : Option FieldType), 6, 1, 0, 0, eD53),
  (⟨"LeafVotes$Tokens", "isWord", "(I)Z"⟩, prog_12_method_11_code, 2, (Option.some FieldType.boolean), 10, 2, 0, 0, eD54),
  (⟨"LeafVotes$ParishReader", "readTree", "()V"⟩, prog_8_method_11_code, 4, (Option.none : Option FieldType), 6, 1, 0, 0, eD55),
  (⟨"LeafVotes$Land", "isFree", "(II)Z"⟩, prog_6_method_9_code, 3, (Option.some FieldType.boolean), 4, 3, 0, 0, eD56),
  (⟨"LeafVotes$Land", "isWalled", "(II)Z"⟩, prog_6_method_7_code, 3, (Option.some FieldType.boolean), 4, 3, 0, 0, eD57),
  (⟨"LeafVotes$Land", "treeAt", "(II)I"⟩, prog_6_method_10_code, 4, (Option.some FieldType.int), 4, 3, 0, 0, eD58),
  (⟨"LeafVotes$Land", "isAlive", "(I)Z"⟩, prog_6_method_6_code, 2, (Option.some FieldType.boolean), 4, 2, 0, 0, eD59),
  (⟨"LeafVotes$Land", "addTree", "(IIII)V"⟩, prog_6_method_4_code, 5, (Option.none : Option FieldType), 4, 5, 0, 0, eD60),
  (⟨"LeafVotes$ParishReader", "readWall", "()V"⟩, prog_8_method_12_code, 3, (Option.none : Option FieldType), 6, 1, 0, 0, eD61),
  (⟨"LeafVotes$Land", "addWall", "(II)V"⟩, prog_6_method_5_code, 3, (Option.none : Option FieldType), 4, 3, 0, 0, eD62),
  (⟨"LeafVotes$ParishReader", "readWind", "()V"⟩, prog_8_method_13_code, 4, (Option.none : Option FieldType), 6, 1, 0, 0, eD63)]
noncomputable def eMs2 : List evM := [(⟨"LeafVotes$Tokens", "way", "()I"⟩, prog_12_method_14_code, 2, (Option.some FieldType.int), 10, 1, 0, 0, eD64),
  (⟨"LeafVotes$Parish", "hasWind", "(II)Z"⟩, prog_7_method_8_code, 4, (Option.some FieldType.boolean), 5, 3, 0, 0, eD65),
  (⟨"LeafVotes$Tokens", "passMark", "(I)V"⟩, prog_12_method_10_code, 2, (Option.none : Option FieldType), 10, 2, 0, 0, eD66),
  (⟨"LeafVotes$Tokens", "isMark", "(I)Z"⟩, prog_12_method_9_code, 2, (Option.some FieldType.boolean), 10, 2, 0, 0, eD67),
  (⟨"LeafVotes$Sentence", "forget", "()V"⟩, prog_11_method_2_code, 1, (Option.none : Option FieldType), 9, 1, 0, 0, eD68),
  (⟨"LeafVotes$History", "forget", "()V"⟩, prog_4_method_2_code, 1, (Option.none : Option FieldType), 2, 1, 0, 0, eD69),
  (⟨"LeafVotes", "fault", "()I"⟩, prog_1_method_7_code, 1, (Option.some FieldType.int), 11, 1, 0, 0, eD70),
  (⟨"LeafVotes", "owner", "(II)I"⟩, prog_1_method_11_code, 3, (Option.some FieldType.int), 11, 3, 0, 0, eD71),
  (⟨"LeafVotes", "isOwner", "(I)Z"⟩, prog_1_method_20_code, 2, (Option.some FieldType.boolean), 11, 2, 0, 0, eD72),
  (⟨"LeafVotes", "cellsOfOwner", "(I)I"⟩, prog_1_method_12_code, 4, (Option.some FieldType.int), 11, 2, 0, 0, eD73),
  (⟨"LeafVotes$Land", "ownerAt", "(LLeafVotes$Parish;I)I"⟩, prog_6_method_11_code, 5, (Option.some FieldType.int), 4, 3, 0, 0, eD74),
  (⟨"LeafVotes", "stripsOfOwner", "(I)I"⟩, prog_1_method_13_code, 4, (Option.some FieldType.int), 11, 2, 0, 0, eD75),
  (⟨"LeafVotes", "strip", "(II)I"⟩, prog_1_method_14_code, 3, (Option.some FieldType.int), 11, 3, 0, 0, eD76),
  (⟨"LeafVotes", "isStrip", "(I)Z"⟩, prog_1_method_21_code, 2, (Option.some FieldType.boolean), 11, 2, 0, 0, eD77),
  (⟨"LeafVotes", "votersOf", "(I)I"⟩, prog_1_method_15_code, 4, (Option.some FieldType.int), 11, 2, 0, 0, eD78),
  (⟨"LeafVotes$Land", "hasSay", "(LLeafVotes$Parish;II)Z"⟩, prog_6_method_12_code, 4, (Option.some FieldType.boolean), 4, 4, 0, 0, eD79),
  (⟨"LeafVotes$Parish", "isNear", "(III)Z"⟩, prog_7_method_4_code, 8, (Option.some FieldType.boolean), 5, 4, 0, 0, eD80),
  (⟨"LeafVotes", "now", "(I)I"⟩, prog_1_method_16_code, 2, (Option.some FieldType.int), 11, 2, 0, 0, eD81),
  (⟨"LeafVotes$Land", "rakedCells", "()I"⟩, prog_6_method_15_code, 3, (Option.some FieldType.int), 4, 1, 0, 0, eD82),
  (⟨"java/lang/Integer", "bitCount", "(I)I"⟩, prog_19_method_49_code, 1, (Option.some FieldType.int), 15, 1, 0, 0, eD83),
  (⟨"LeafVotes$Land", "allLeaves", "(LLeafVotes$Parish;)I"⟩, prog_6_method_14_code, 4, (Option.some FieldType.int), 4, 2, 0, 0, eD84),
  (⟨"LeafVotes$Land", "leavesOf", "(LLeafVotes$Parish;I)I"⟩, prog_6_method_13_code, 4, (Option.some FieldType.int), 4, 3, 0, 0, eD85),
  (⟨"LeafVotes", "count", "(I)I"⟩, prog_1_method_17_code, 2, (Option.some FieldType.int), 11, 2, 0, 0, eD86),
  (⟨"LeafVotes", "blow", "(II)I"⟩, prog_1_method_24_code, 3, (Option.some FieldType.int), 11, 3, 0, 0, eD87),
  (⟨"LeafVotes", "isWind", "(II)Z"⟩, prog_1_method_23_code, 3, (Option.some FieldType.boolean), 11, 3, 0, 0, eD88),
  (⟨"LeafVotes$History", "note", "(LLeafVotes$Land;)V"⟩, prog_4_method_3_code, 2, (Option.none : Option FieldType), 2, 2, 0, 0, eD89),
  (⟨"LeafVotes$Land", "copyFrom", "(LLeafVotes$Land;)V"⟩, prog_6_method_3_code, 2, (Option.none : Option FieldType), 4, 2, 0, 0, eD90),
  (⟨"LeafVotes$Acts", "tryBlow", "(LLeafVotes$Parish;LLeafVotes$Land;II)I"⟩, prog_2_method_2_code, 7, (Option.some FieldType.int), 0, 5, 0, 0, eD91),
  (⟨"LeafVotes$Fall", "work", "(LLeafVotes$Parish;LLeafVotes$Land;II)V"⟩, prog_3_method_2_code, 6, (Option.none : Option FieldType), 1, 5, 0, 0, eD92),
  (⟨"LeafVotes$Fall", "spread", "(III)V"⟩, prog_3_method_3_code, 12, (Option.none : Option FieldType), 1, 4, 0, 0, eD93),
  (⟨"LeafVotes$Land", "isRaked", "(II)Z"⟩, prog_6_method_8_code, 3, (Option.some FieldType.boolean), 4, 3, 0, 0, eD94),
  (⟨"LeafVotes$Fall", "gather", "()V"⟩, prog_3_method_4_code, 2, (Option.none : Option FieldType), 1, 1, 0, 0, eD95)]
noncomputable def eMs3 : List evM := [(⟨"LeafVotes$Fall", "castVotes", "(I)V"⟩, prog_3_method_5_code, 5, (Option.none : Option FieldType), 1, 2, 0, 0, eD96),
  (⟨"LeafVotes$Parish", "isEvergreen", "(I)Z"⟩, prog_7_method_5_code, 2, (Option.some FieldType.boolean), 5, 2, 0, 0, eD97),
  (⟨"LeafVotes$Fall", "favourite", "(I)I"⟩, prog_3_method_6_code, 3, (Option.some FieldType.int), 1, 2, 0, 0, eD98),
  (⟨"LeafVotes$Fall", "leader", "([II)I"⟩, prog_3_method_7_code, 5, (Option.some FieldType.int), 1, 2, 0, 0, eD99),
  (⟨"LeafVotes$Acts", "noteVotes", "(LLeafVotes$Parish;LLeafVotes$Land;)V"⟩, prog_2_method_3_code, 5, (Option.none : Option FieldType), 0, 3, 0, 0, eD100),
  (⟨"LeafVotes$Fall", "heirOf", "(I)I"⟩, prog_3_method_8_code, 3, (Option.some FieldType.int), 1, 2, 0, 0, eD101),
  (⟨"LeafVotes", "keepIfDone", "(I)I"⟩, prog_1_method_29_code, 2, (Option.some FieldType.int), 11, 2, 0, 0, eD102),
  (⟨"LeafVotes$History", "keep", "()V"⟩, prog_4_method_4_code, 3, (Option.none : Option FieldType), 2, 1, 0, 0, eD103),
  (⟨"LeafVotes", "plant", "(III)I"⟩, prog_1_method_25_code, 4, (Option.some FieldType.int), 11, 4, 0, 0, eD104),
  (⟨"LeafVotes", "isKind", "(I)Z"⟩, prog_1_method_22_code, 2, (Option.some FieldType.boolean), 11, 2, 0, 0, eD105),
  (⟨"LeafVotes", "isCell", "(II)Z"⟩, prog_1_method_19_code, 3, (Option.some FieldType.boolean), 11, 3, 0, 0, eD106),
  (⟨"LeafVotes$Acts", "tryPlant", "(LLeafVotes$Land;III)I"⟩, prog_2_method_4_code, 5, (Option.some FieldType.int), 0, 5, 0, 0, eD107),
  (⟨"LeafVotes", "fell", "(I)I"⟩, prog_1_method_26_code, 2, (Option.some FieldType.int), 11, 2, 0, 0, eD108),
  (⟨"LeafVotes", "isTree", "(I)Z"⟩, prog_1_method_18_code, 2, (Option.some FieldType.boolean), 11, 2, 0, 0, eD109),
  (⟨"LeafVotes$Acts", "tryFell", "(LLeafVotes$Land;I)I"⟩, prog_2_method_5_code, 3, (Option.some FieldType.int), 0, 3, 0, 0, eD110),
  (⟨"LeafVotes", "wall", "(II)I"⟩, prog_1_method_27_code, 3, (Option.some FieldType.int), 11, 3, 0, 0, eD111),
  (⟨"LeafVotes$Acts", "tryWall", "(LLeafVotes$Land;II)I"⟩, prog_2_method_6_code, 4, (Option.some FieldType.int), 0, 4, 0, 0, eD112),
  (⟨"LeafVotes", "rake", "(II)I"⟩, prog_1_method_28_code, 3, (Option.some FieldType.int), 11, 3, 0, 0, eD113),
  (⟨"LeafVotes$Acts", "tryRake", "(LLeafVotes$Land;II)I"⟩, prog_2_method_7_code, 4, (Option.some FieldType.int), 0, 4, 0, 0, eD114),
  (⟨"LeafVotes", "undo", "()I"⟩, prog_1_method_30_code, 1, (Option.some FieldType.int), 11, 1, 0, 0, eD115),
  (⟨"LeafVotes$History", "takeBack", "(LLeafVotes$Land;)I"⟩, prog_4_method_5_code, 2, (Option.some FieldType.int), 2, 2, 0, 0, eD116),
  (⟨"LeafVotes", "leaves", "(IIII)I"⟩, prog_1_method_31_code, 5, (Option.some FieldType.int), 11, 5, 0, 0, eD117),
  (⟨"LeafVotes", "votes", "(IIII)I"⟩, prog_1_method_32_code, 5, (Option.some FieldType.int), 11, 5, 0, 0, eD118),
  (⟨"LeafVotes", "voices", "(IIII)I"⟩, prog_1_method_33_code, 5, (Option.some FieldType.int), 11, 5, 0, 0, eD119),
  (⟨"LeafVotes", "goes", "(III)I"⟩, prog_1_method_34_code, 4, (Option.some FieldType.int), 11, 4, 0, 0, eD120),
  (⟨"LeafVotes", "sack", "(III)I"⟩, prog_1_method_35_code, 4, (Option.some FieldType.int), 11, 4, 0, 0, eD121),
  (⟨"LeafVotes", "decides", "(III)I"⟩, prog_1_method_38_code, 9, (Option.some FieldType.int), 11, 4, 0, 0, eD122),
  (⟨"LeafVotes", "blew", "()I"⟩, prog_1_method_39_code, 5, (Option.some FieldType.int), 11, 1, 0, 0, eD123),
  (⟨"LeafVotes", "takeSacks", "()Z"⟩, prog_1_method_43_code, 2, (Option.some FieldType.boolean), 11, 1, 0, 0, eD124),
  (⟨"LeafVotes", "sacksAreSo", "()Z"⟩, prog_1_method_44_code, 2, (Option.some FieldType.boolean), 11, 1, 0, 0, eD125),
  (⟨"LeafVotes", "wind", "()I"⟩, prog_1_method_40_code, 1, (Option.some FieldType.int), 11, 1, 0, 0, eD126),
  (⟨"LeafVotes", "raked", "(II)I"⟩, prog_1_method_41_code, 5, (Option.some FieldType.int), 11, 3, 0, 0, eD127)]
noncomputable def eMs4 : List evM := [(⟨"LeafVotes", "sacksAreSoWithout", "(I)Z"⟩, prog_1_method_45_code, 4, (Option.some FieldType.boolean), 11, 2, 0, 0, eD128),
  (⟨"LeafVotes", "where", "()I"⟩, prog_1_method_42_code, 1, (Option.some FieldType.int), 11, 1, 0, 0, eD129),
  (⟨"LeafVotes", "bestTree", "(IIII)I"⟩, prog_1_method_46_code, 6, (Option.some FieldType.int), 11, 5, 0, 0, eD130),
  (⟨"LeafVotes$Planner", "begin", "(LLeafVotes$Parish;LLeafVotes$Land;I)V"⟩, prog_9_method_2_code, 7, (Option.none : Option FieldType), 7, 4, 0, 0, eD131),
  (⟨"LeafVotes$Planner", "planTree", "(III)I"⟩, prog_9_method_3_code, 7, (Option.some FieldType.int), 7, 4, 0, 0, eD132),
  (⟨"LeafVotes$Planner", "canvass", "(II)V"⟩, prog_9_method_4_code, 9, (Option.none : Option FieldType), 7, 3, 0, 0, eD133),
  (⟨"LeafVotes$Planner", "heirWith", "(IIII)I"⟩, prog_9_method_5_code, 5, (Option.some FieldType.int), 7, 5, 0, 0, eD134),
  (⟨"LeafVotes$Planner", "heirByRow", "()I"⟩, prog_9_method_6_code, 2, (Option.some FieldType.int), 7, 1, 0, 0, eD135),
  (⟨"LeafVotes$Planner", "pickBest", "()I"⟩, prog_9_method_7_code, 3, (Option.some FieldType.int), 7, 1, 0, 0, eD136),
  (⟨"LeafVotes", "keepCell", "(I)I"⟩, prog_1_method_49_code, 2, (Option.some FieldType.int), 11, 2, 0, 0, eD137),
  (⟨"LeafVotes", "bestWall", "(II)I"⟩, prog_1_method_47_code, 3, (Option.some FieldType.int), 11, 3, 0, 0, eD138),
  (⟨"LeafVotes$Planner", "planWall", "(I)I"⟩, prog_9_method_8_code, 4, (Option.some FieldType.int), 7, 2, 0, 0, eD139),
  (⟨"LeafVotes$Planner", "heirWithWall", "(II)I"⟩, prog_9_method_9_code, 6, (Option.some FieldType.int), 7, 3, 0, 0, eD140),
  (⟨"LeafVotes$Planner", "isAhead", "(IIII)Z"⟩, prog_9_method_10_code, 10, (Option.some FieldType.boolean), 7, 5, 0, 0, eD141),
  (⟨"LeafVotes$Planner", "revote", "(I)V"⟩, prog_9_method_11_code, 5, (Option.none : Option FieldType), 7, 2, 0, 0, eD142),
  (⟨"LeafVotes", "duel", "(IIII)I"⟩, prog_1_method_48_code, 5, (Option.some FieldType.int), 11, 5, 0, 0, eD143),
  (⟨"LeafVotes$Planner", "planDuel", "(III)I"⟩, prog_9_method_12_code, 5, (Option.some FieldType.int), 7, 4, 0, 0, eD144),
  (⟨"LeafVotes$Planner", "listHeirs", "(II)V"⟩, prog_9_method_13_code, 6, (Option.none : Option FieldType), 7, 3, 0, 0, eD145),
  (⟨"LeafVotes$Planner", "answerOf", "(II)I"⟩, prog_9_method_14_code, 7, (Option.some FieldType.int), 7, 3, 0, 0, eD146),
  (⟨"LeafVotes$Planner", "chancesBehind", "(II)I"⟩, prog_9_method_15_code, 5, (Option.some FieldType.int), 7, 3, 0, 0, eD147),
  (⟨"LeafVotes", "at", "()I"⟩, prog_1_method_50_code, 1, (Option.some FieldType.int), 11, 1, 0, 0, eD148),
  (⟨"LeafVotes", "drawn", "(II)I"⟩, prog_1_method_51_code, 4, (Option.some FieldType.int), 11, 3, 0, 0, eD149),
  (⟨"LeafVotes$Acts", "drawAutumns", "(LLeafVotes$Parish;LLeafVotes$Land;II)I"⟩, prog_2_method_8_code, 9, (Option.some FieldType.int), 0, 5, 0, 0, eD150),
  (⟨"LeafVotes$Parish", "allChances", "()I"⟩, prog_7_method_9_code, 3, (Option.some FieldType.int), 5, 1, 0, 0, eD151),
  (⟨"LeafVotes$Acts", "draw", "(I)I"⟩, prog_2_method_9_code, 2, (Option.some FieldType.int), 0, 2, 0, 0, eD152),
  (⟨"LeafVotes$Acts", "windOf", "(LLeafVotes$Parish;I)I"⟩, prog_2_method_10_code, 4, (Option.some FieldType.int), 0, 2, 0, 0, eD153),
  (⟨"LeafVotes", "odds", "(IIII)I"⟩, prog_1_method_52_code, 7, (Option.some FieldType.int), 11, 5, 0, 0, eD154),
  (⟨"LeafVotes", "roll", "(I)I"⟩, prog_1_method_53_code, 3, (Option.some FieldType.int), 11, 2, 0, 0, eD155),
  (⟨"LeafVotes$Roll", "read", "(LLeafVotes$Tokens;LLeafVotes$Parish;)V"⟩, prog_10_method_2_code, 4, (Option.none : Option FieldType), 8, 3, 0, 0, eD156),
  (⟨"LeafVotes$Roll", "readLine", "(LLeafVotes$Tokens;LLeafVotes$Parish;)V"⟩, prog_10_method_3_code, 4, (Option.none : Option FieldType), 8, 3, 0, 0, eD157),
  (⟨"LeafVotes$Roll", "play", "(LLeafVotes$Acts;LLeafVotes$Parish;LLeafVotes$Land;)I"⟩, prog_10_method_4_code, 5, (Option.some FieldType.int), 8, 4, 0, 0, eD158),
  (⟨"LeafVotes$Roll", "reason", "(II)I"⟩, prog_10_method_5_code, 2, (Option.some FieldType.int), 8, 2, 0, 0, eD159)]
noncomputable def eMs5 : List evM := [(⟨"LeafVotes", "rolled", "(I)I"⟩, prog_1_method_54_code, 2, (Option.some FieldType.int), 11, 2, 0, 0, eD160),
  (⟨"LeafVotes", "sentence", "()I"⟩, prog_1_method_55_code, 2, (Option.some FieldType.int), 11, 1, 0, 0, eD161),
  (⟨"LeafVotes$Sentence", "read", "(LLeafVotes$Tokens;LLeafVotes$Parish;)V"⟩, prog_11_method_4_code, 3, (Option.none : Option FieldType), 9, 3, 0, 0, eD162),
  (⟨"LeafVotes$Sentence", "readCondition", "(LLeafVotes$Tokens;LLeafVotes$Parish;I)V"⟩, prog_11_method_5_code, 7, (Option.none : Option FieldType), 9, 4, 0, 0, eD163),
  (⟨"LeafVotes$Sentence", "readOne", "(LLeafVotes$Tokens;LLeafVotes$Parish;I)V"⟩, prog_11_method_7_code, 6, (Option.none : Option FieldType), 9, 4, 0, 0, eD164),
  (⟨"LeafVotes$Sentence", "addStep", "(III)V"⟩, prog_11_method_9_code, 4, (Option.none : Option FieldType), 9, 4, 0, 0, eD165),
  (⟨"LeafVotes$Sentence", "readPlain", "(LLeafVotes$Tokens;LLeafVotes$Parish;I)V"⟩, prog_11_method_8_code, 6, (Option.none : Option FieldType), 9, 4, 0, 0, eD166),
  (⟨"LeafVotes$Sentence", "isJoin", "(I)Z"⟩, prog_11_method_6_code, 1, (Option.some FieldType.boolean), 9, 1, 0, 0, eD167),
  (⟨"LeafVotes", "said", "(I)I"⟩, prog_1_method_56_code, 5, (Option.some FieldType.int), 11, 2, 0, 0, eD168),
  (⟨"LeafVotes$Sentence", "treesOf", "(LLeafVotes$Parish;LLeafVotes$Land;)I"⟩, prog_11_method_10_code, 6, (Option.some FieldType.int), 9, 3, 0, 0, eD169),
  (⟨"LeafVotes$Sentence", "treesOfStep", "(ILLeafVotes$Parish;LLeafVotes$Land;)I"⟩, prog_11_method_11_code, 6, (Option.some FieldType.int), 9, 4, 0, 0, eD170),
  (⟨"LeafVotes$Sentence", "holds", "(IILLeafVotes$Parish;LLeafVotes$Land;)Z"⟩, prog_11_method_12_code, 5, (Option.some FieldType.boolean), 9, 5, 0, 0, eD171),
  (⟨"LeafVotes$Sentence", "compares", "(II)Z"⟩, prog_11_method_13_code, 3, (Option.some FieldType.boolean), 9, 3, 0, 0, eD172),
  (⟨"LeafVotes", "image", "(I)Z"⟩, prog_1_method_57_code, 2, (Option.some FieldType.boolean), 11, 2, 0, 0, eD173),
  (⟨"LeafVotes$Image", "keep", "(LLeafVotes$Parish;LLeafVotes$Land;LLeafVotes$Sentence;)V"⟩, prog_5_method_2_code, 4, (Option.none : Option FieldType), 3, 4, 0, 0, eD174),
  (⟨"LeafVotes$Parish", "copyFrom", "(LLeafVotes$Parish;)V"⟩, prog_7_method_3_code, 2, (Option.none : Option FieldType), 5, 2, 0, 0, eD175),
  (⟨"LeafVotes$Sentence", "copyFrom", "(LLeafVotes$Sentence;)V"⟩, prog_11_method_3_code, 2, (Option.none : Option FieldType), 9, 2, 0, 0, eD176),
  (⟨"LeafVotes", "restore", "(I)Z"⟩, prog_1_method_58_code, 2, (Option.some FieldType.boolean), 11, 2, 0, 0, eD177),
  (⟨"LeafVotes$Image", "putBack", "(LLeafVotes$Parish;LLeafVotes$Land;LLeafVotes$Sentence;)V"⟩, prog_5_method_3_code, 4, (Option.none : Option FieldType), 3, 4, 0, 0, eD178),
  (⟨"LeafVotes", "<init>", "()V"⟩, prog_1_method_1_code, 2, (Option.none : Option FieldType), 11, 1, 1500, 40000, eD0),
  (⟨"LeafVotes", "tree", "(II)I"⟩, prog_1_method_8_code, 3, (Option.some FieldType.int), 11, 3, 0, 0, eD180),
  (⟨"LeafVotes", "saysOf", "(I)I"⟩, prog_1_method_9_code, 4, (Option.some FieldType.int), 11, 2, 0, 0, eD181),
  (⟨"LeafVotes", "<init>", "()V"⟩, prog_1_method_1_code, 2, (Option.none : Option FieldType), 11, 1, 1500, 40000, eD0),
  (⟨"LeafVotes", "cell", "(III)I"⟩, prog_1_method_10_code, 5, (Option.some FieldType.int), 11, 4, 0, 0, eD183),
  (⟨"LeafVotes", "<init>", "()V"⟩, prog_1_method_1_code, 2, (Option.none : Option FieldType), 11, 1, 1500, 40000, eD0),
  (⟨"LeafVotes", "likely", "(III)I"⟩, prog_1_method_36_code, 8, (Option.some FieldType.int), 11, 4, 0, 0, eD185),
  (⟨"LeafVotes", "commonDivisor", "(II)I"⟩, prog_1_method_37_code, 6, (Option.some FieldType.int), 11, 2, 0, 0, eD186),
  (⟨"LeafVotesModel", "feed", "(IIIII)I"⟩, prog_14_method_3_code, 6, (Option.some FieldType.int), 12, 6, 0, 0, eD187),
  (⟨"LeafVotesModel", "four", "(I)V"⟩, prog_14_method_4_code, 3, (Option.none : Option FieldType), 12, 2, 0, 0, eD188),
  (⟨"LeafVotesModel", "end", "(I)Z"⟩, prog_14_method_5_code, 2, (Option.some FieldType.boolean), 12, 2, 0, 0, eD189),
  (⟨"LeafVotesModel", "<init>", "()V"⟩, prog_14_method_12_code, 1, (Option.none : Option FieldType), 12, 1, 60, 12000, eD190),
  (⟨"LeafVotesModel", "begins", "()V"⟩, prog_14_method_35_code, 2, (Option.none : Option FieldType), 12, 1, 0, 0, eD191)]
noncomputable def eMs6 : List evM := [(⟨"LeafVotesModel", "parish", "()I"⟩, prog_14_method_34_code, 2, (Option.some FieldType.int), 12, 1, 0, 0, eD192),
  (⟨"LeafVotesModel", "taken", "(I)V"⟩, prog_14_method_6_code, 2, (Option.none : Option FieldType), 12, 2, 0, 0, eD193),
  (⟨"LeafVotesModel", "skip", "()V"⟩, prog_14_method_16_code, 4, (Option.none : Option FieldType), 12, 1, 0, 0, eD194),
  (⟨"LeafVotesModel", "peek", "()I"⟩, prog_14_method_13_code, 1, (Option.some FieldType.int), 12, 1, 0, 0, eD195),
  (⟨"LeafVotesModel", "isSmall", "(I)Z"⟩, prog_14_method_14_code, 1, (Option.some FieldType.boolean), 12, 1, 0, 0, eD196),
  (⟨"LeafVotesModel", "isDigit", "(I)Z"⟩, prog_14_method_15_code, 1, (Option.some FieldType.boolean), 12, 1, 0, 0, eD197),
  (⟨"LeafVotesModel", "line", "()Z"⟩, prog_14_method_29_code, 2, (Option.some FieldType.boolean), 12, 1, 0, 0, eD198),
  (⟨"LeafVotesModel", "isWord", "(J)Z"⟩, prog_14_method_18_code, 3, (Option.some FieldType.boolean), 12, 2, 0, 0, eD199),
  (⟨"LeafVotesModel", "bad", "(I)Z"⟩, prog_14_method_17_code, 2, (Option.some FieldType.boolean), 12, 2, 0, 0, eD200),
  (⟨"LeafVotesModel", "takes", "(II)Z"⟩, prog_14_method_23_code, 3, (Option.some FieldType.boolean), 12, 3, 0, 0, eD201),
  (⟨"LeafVotesModel", "looks", "(II)Z"⟩, prog_14_method_22_code, 3, (Option.some FieldType.boolean), 12, 3, 0, 0, eD202),
  (⟨"LeafVotesModel", "isIn", "(III)Z"⟩, prog_14_method_7_code, 3, (Option.some FieldType.boolean), 12, 3, 0, 0, eD203),
  (⟨"LeafVotesModel", "fresh", "(I)Z"⟩, prog_14_method_25_code, 2, (Option.some FieldType.boolean), 12, 2, 0, 0, eD204),
  (⟨"LeafVotesModel", "isName", "()Z"⟩, prog_14_method_21_code, 3, (Option.some FieldType.boolean), 12, 1, 0, 0, eD205),
  (⟨"LeafVotesModel", "find", "(II)I"⟩, prog_14_method_24_code, 4, (Option.some FieldType.int), 12, 3, 0, 0, eD206),
  (⟨"LeafVotesModel", "readKind", "()Z"⟩, prog_14_method_30_code, 2, (Option.some FieldType.boolean), 12, 1, 0, 0, eD207),
  (⟨"LeafVotesModel", "readWind", "()Z"⟩, prog_14_method_31_code, 3, (Option.some FieldType.boolean), 12, 1, 0, 0, eD208),
  (⟨"LeafVotesModel", "takesWay", "()Z"⟩, prog_14_method_28_code, 1, (Option.some FieldType.boolean), 12, 1, 0, 0, eD209),
  (⟨"LeafVotesModel", "wayOf", "()I"⟩, prog_14_method_27_code, 1, (Option.some FieldType.int), 12, 1, 0, 0, eD210),
  (⟨"LeafVotesModel", "takesName", "(II)Z"⟩, prog_14_method_26_code, 3, (Option.some FieldType.boolean), 12, 3, 0, 0, eD211),
  (⟨"LeafVotesModel", "readGround", "(II)Z"⟩, prog_14_method_32_code, 5, (Option.some FieldType.boolean), 12, 3, 0, 0, eD212),
  (⟨"LeafVotesModel", "readThing", "(I)Z"⟩, prog_14_method_33_code, 5, (Option.some FieldType.boolean), 12, 2, 0, 0, eD213),
  (⟨"LeafVotesModel", "sign", "(I)Z"⟩, prog_14_method_20_code, 2, (Option.some FieldType.boolean), 12, 2, 0, 0, eD214),
  (⟨"LeafVotesModel", "isSign", "(I)Z"⟩, prog_14_method_19_code, 2, (Option.some FieldType.boolean), 12, 2, 0, 0, eD215),
  (⟨"LeafVotesModel", "fault", "()I"⟩, prog_14_method_36_code, 1, (Option.some FieldType.int), 12, 1, 0, 0, eD216),
  (⟨"LeafVotesModel", "tree", "(II)I"⟩, prog_14_method_55_code, 3, (Option.some FieldType.int), 12, 3, 0, 0, eD217),
  (⟨"LeafVotesModel", "isTree", "(I)Z"⟩, prog_14_method_40_code, 2, (Option.some FieldType.boolean), 12, 2, 0, 0, eD218),
  (⟨"LeafVotesModel", "throwsIf", "(Z)Z"⟩, prog_14_method_2_code, 2, (Option.some FieldType.boolean), 12, 2, 0, 0, eD219),
  (⟨"LeafVotesModel", "leavesOf", "(I)I"⟩, prog_14_method_46_code, 4, (Option.some FieldType.int), 12, 2, 0, 0, eD220),
  (⟨"LeafVotesModel", "isAlive", "(I)Z"⟩, prog_14_method_43_code, 2, (Option.some FieldType.boolean), 12, 2, 0, 0, eD221),
  (⟨"LeafVotesModel", "bitOf", "(II)Z"⟩, prog_14_method_8_code, 2, (Option.some FieldType.boolean), 12, 2, 0, 0, eD222),
  (⟨"LeafVotesModel", "says", "(I)I"⟩, prog_14_method_48_code, 4, (Option.some FieldType.int), 12, 2, 0, 0, eD223)]
noncomputable def eMs7 : List evM := [(⟨"LeafVotesModel", "hasSay", "(II)Z"⟩, prog_14_method_47_code, 5, (Option.some FieldType.boolean), 12, 3, 0, 0, eD224),
  (⟨"LeafVotesModel", "cell", "(III)I"⟩, prog_14_method_56_code, 5, (Option.some FieldType.int), 12, 4, 0, 0, eD225),
  (⟨"LeafVotesModel", "isCell", "(II)Z"⟩, prog_14_method_41_code, 3, (Option.some FieldType.boolean), 12, 3, 0, 0, eD226),
  (⟨"LeafVotesModel", "ownerOf", "(I)I"⟩, prog_14_method_45_code, 2, (Option.some FieldType.int), 12, 2, 0, 0, eD227),
  (⟨"LeafVotesModel", "treeAt", "(II)I"⟩, prog_14_method_44_code, 4, (Option.some FieldType.int), 12, 3, 0, 0, eD228),
  (⟨"LeafVotesModel", "owner", "(II)I"⟩, prog_14_method_57_code, 6, (Option.some FieldType.int), 12, 3, 0, 0, eD229),
  (⟨"LeafVotesModel", "isOwner", "(I)Z"⟩, prog_14_method_37_code, 2, (Option.some FieldType.boolean), 12, 2, 0, 0, eD230),
  (⟨"LeafVotesModel", "strip", "(II)I"⟩, prog_14_method_58_code, 5, (Option.some FieldType.int), 12, 3, 0, 0, eD231),
  (⟨"LeafVotesModel", "isStrip", "(I)Z"⟩, prog_14_method_38_code, 2, (Option.some FieldType.boolean), 12, 2, 0, 0, eD232),
  (⟨"LeafVotesModel", "now", "(I)I"⟩, prog_14_method_59_code, 5, (Option.some FieldType.int), 12, 2, 0, 0, eD233),
  (⟨"LeafVotesModel", "blow", "(II)I"⟩, prog_14_method_66_code, 3, (Option.some FieldType.int), 12, 3, 0, 0, eD234),
  (⟨"LeafVotesModel", "isWind", "(II)Z"⟩, prog_14_method_42_code, 3, (Option.some FieldType.boolean), 12, 3, 0, 0, eD235),
  (⟨"LeafVotesModel", "keep", "()V"⟩, prog_14_method_71_code, 2, (Option.none : Option FieldType), 12, 1, 0, 0, eD236),
  (⟨"LeafVotesModel", "blows", "(II)V"⟩, prog_14_method_65_code, 5, (Option.none : Option FieldType), 12, 3, 0, 0, eD237),
  (⟨"LeafVotesModel", "allFall", "(II)V"⟩, prog_14_method_54_code, 6, (Option.none : Option FieldType), 12, 3, 0, 0, eD238),
  (⟨"LeafVotesModel", "falls", "(IIII)I"⟩, prog_14_method_49_code, 10, (Option.some FieldType.int), 12, 5, 0, 0, eD239),
  (⟨"LeafVotesModel", "goesOf", "(III)I"⟩, prog_14_method_53_code, 5, (Option.some FieldType.int), 12, 4, 0, 0, eD240),
  (⟨"LeafVotesModel", "speaks", "(III)V"⟩, prog_14_method_52_code, 5, (Option.none : Option FieldType), 12, 4, 0, 0, eD241),
  (⟨"LeafVotesModel", "voteOf", "(IIII)I"⟩, prog_14_method_51_code, 7, (Option.some FieldType.int), 12, 5, 0, 0, eD242),
  (⟨"LeafVotesModel", "mostOf", "()I"⟩, prog_14_method_50_code, 4, (Option.some FieldType.int), 12, 1, 0, 0, eD243),
  (⟨"LeafVotesModel", "plant", "(III)I"⟩, prog_14_method_67_code, 5, (Option.some FieldType.int), 12, 4, 0, 0, eD244),
  (⟨"LeafVotesModel", "isKind", "(I)Z"⟩, prog_14_method_39_code, 2, (Option.some FieldType.boolean), 12, 2, 0, 0, eD245),
  (⟨"LeafVotesModel", "whyPlant", "(II)I"⟩, prog_14_method_61_code, 3, (Option.some FieldType.int), 12, 3, 0, 0, eD246),
  (⟨"LeafVotesModel", "isTaken", "(II)Z"⟩, prog_14_method_60_code, 3, (Option.some FieldType.boolean), 12, 3, 0, 0, eD247),
  (⟨"LeafVotesModel", "plants", "(III)V"⟩, prog_14_method_63_code, 5, (Option.none : Option FieldType), 12, 4, 0, 0, eD248),
  (⟨"LeafVotesModel", "fell", "(I)I"⟩, prog_14_method_68_code, 2, (Option.some FieldType.int), 12, 2, 0, 0, eD249),
  (⟨"LeafVotesModel", "wall", "(II)I"⟩, prog_14_method_69_code, 4, (Option.some FieldType.int), 12, 3, 0, 0, eD250),
  (⟨"LeafVotesModel", "whyWall", "(II)I"⟩, prog_14_method_62_code, 3, (Option.some FieldType.int), 12, 3, 0, 0, eD251),
  (⟨"LeafVotesModel", "walls", "(II)V"⟩, prog_14_method_64_code, 3, (Option.none : Option FieldType), 12, 3, 0, 0, eD252),
  (⟨"LeafVotesModel", "rake", "(II)I"⟩, prog_14_method_70_code, 3, (Option.some FieldType.int), 12, 3, 0, 0, eD253),
  (⟨"LeafVotesModel", "undo", "()I"⟩, prog_14_method_72_code, 2, (Option.some FieldType.int), 12, 1, 0, 0, eD254),
  (⟨"LeafVotesModel", "leaves", "(IIII)I"⟩, prog_14_method_75_code, 8, (Option.some FieldType.int), 12, 5, 0, 0, eD255)]
noncomputable def eMs8 : List evM := [(⟨"LeafVotesModel", "votes", "(IIII)I"⟩, prog_14_method_76_code, 5, (Option.some FieldType.int), 12, 5, 0, 0, eD256),
  (⟨"LeafVotesModel", "voices", "(IIII)I"⟩, prog_14_method_77_code, 5, (Option.some FieldType.int), 12, 5, 0, 0, eD257),
  (⟨"LeafVotesModel", "goes", "(III)I"⟩, prog_14_method_78_code, 4, (Option.some FieldType.int), 12, 4, 0, 0, eD258),
  (⟨"LeafVotesModel", "sack", "(III)I"⟩, prog_14_method_79_code, 4, (Option.some FieldType.int), 12, 4, 0, 0, eD259),
  (⟨"LeafVotesModel", "likely", "(III)I"⟩, prog_14_method_82_code, 4, (Option.some FieldType.int), 12, 4, 0, 0, eD260),
  (⟨"LeafVotesModel", "chancesOf", "(II)I"⟩, prog_14_method_81_code, 5, (Option.some FieldType.int), 12, 3, 0, 0, eD261),
  (⟨"LeafVotesModel", "chances", "()I"⟩, prog_14_method_80_code, 3, (Option.some FieldType.int), 12, 1, 0, 0, eD262),
  (⟨"LeafVotesModel", "part", "(III)I"⟩, prog_14_method_10_code, 6, (Option.some FieldType.int), 12, 3, 0, 0, eD263),
  (⟨"LeafVotesModel", "decides", "(III)I"⟩, prog_14_method_83_code, 8, (Option.some FieldType.int), 12, 4, 0, 0, eD264),
  (⟨"LeafVotesModel", "blew", "()I"⟩, prog_14_method_86_code, 4, (Option.some FieldType.int), 12, 1, 0, 0, eD265),
  (⟨"LeafVotesModel", "takesSacks", "()Z"⟩, prog_14_method_85_code, 1, (Option.some FieldType.boolean), 12, 1, 0, 0, eD266),
  (⟨"LeafVotesModel", "areSacks", "()Z"⟩, prog_14_method_84_code, 3, (Option.some FieldType.boolean), 12, 1, 0, 0, eD267),
  (⟨"LeafVotesModel", "octet", "(I)I"⟩, prog_14_method_11_code, 2, (Option.some FieldType.int), 12, 2, 0, 0, eD268),
  (⟨"LeafVotesModel", "wind", "()I"⟩, prog_14_method_87_code, 1, (Option.some FieldType.int), 12, 1, 0, 0, eD269),
  (⟨"LeafVotesModel", "raked", "(II)I"⟩, prog_14_method_88_code, 6, (Option.some FieldType.int), 12, 3, 0, 0, eD270),
  (⟨"LeafVotesModel", "where", "()I"⟩, prog_14_method_89_code, 1, (Option.some FieldType.int), 12, 1, 0, 0, eD271),
  (⟨"LeafVotesModel", "bestTree", "(IIII)I"⟩, prog_14_method_94_code, 6, (Option.some FieldType.int), 12, 5, 0, 0, eD272),
  (⟨"LeafVotesModel", "tries", "()V"⟩, prog_14_method_73_code, 2, (Option.none : Option FieldType), 12, 1, 0, 0, eD273),
  (⟨"LeafVotesModel", "bestOf", "(IIII)I"⟩, prog_14_method_92_code, 8, (Option.some FieldType.int), 12, 5, 0, 0, eD274),
  (⟨"LeafVotesModel", "isFree", "(I)Z"⟩, prog_14_method_91_code, 2, (Option.some FieldType.boolean), 12, 2, 0, 0, eD275),
  (⟨"LeafVotesModel", "triesTree", "(III)V"⟩, prog_14_method_90_code, 4, (Option.none : Option FieldType), 12, 4, 0, 0, eD276),
  (⟨"LeafVotesModel", "back", "()V"⟩, prog_14_method_74_code, 2, (Option.none : Option FieldType), 12, 1, 0, 0, eD277),
  (⟨"LeafVotesModel", "told", "(I)I"⟩, prog_14_method_93_code, 2, (Option.some FieldType.int), 12, 2, 0, 0, eD278),
  (⟨"LeafVotesModel", "bestWall", "(II)I"⟩, prog_14_method_95_code, 3, (Option.some FieldType.int), 12, 3, 0, 0, eD279),
  (⟨"LeafVotesModel", "duel", "(IIII)I"⟩, prog_14_method_96_code, 10, (Option.some FieldType.int), 12, 5, 0, 0, eD280),
  (⟨"LeafVotesModel", "at", "()I"⟩, prog_14_method_97_code, 1, (Option.some FieldType.int), 12, 1, 0, 0, eD281),
  (⟨"LeafVotesModel", "drawn", "(II)I"⟩, prog_14_method_100_code, 3, (Option.some FieldType.int), 12, 3, 0, 0, eD282),
  (⟨"LeafVotesModel", "draws", "(II)I"⟩, prog_14_method_99_code, 6, (Option.some FieldType.int), 12, 3, 0, 0, eD283),
  (⟨"LeafVotesModel", "draw", "(I)I"⟩, prog_14_method_98_code, 2, (Option.some FieldType.int), 12, 2, 0, 0, eD284),
  (⟨"LeafVotesModel", "odds", "(IIII)I"⟩, prog_14_method_101_code, 7, (Option.some FieldType.int), 12, 5, 0, 0, eD285),
  (⟨"LeafVotesModel", "roll", "(I)I"⟩, prog_14_method_104_code, 4, (Option.some FieldType.int), 12, 2, 0, 0, eD286),
  (⟨"LeafVotesModel", "rollLine", "()Z"⟩, prog_14_method_102_code, 3, (Option.some FieldType.boolean), 12, 1, 0, 0, eD287)]
noncomputable def eMs9 : List evM := [(⟨"LeafVotesModel", "does", "(IIII)I"⟩, prog_14_method_103_code, 6, (Option.some FieldType.int), 12, 5, 0, 0, eD288),
  (⟨"LeafVotesModel", "rolled", "(I)I"⟩, prog_14_method_105_code, 2, (Option.some FieldType.int), 12, 2, 0, 0, eD289),
  (⟨"LeafVotesModel", "sentence", "()I"⟩, prog_14_method_112_code, 3, (Option.some FieldType.int), 12, 1, 0, 0, eD290),
  (⟨"LeafVotesModel", "nots", "()V"⟩, prog_14_method_108_code, 1, (Option.none : Option FieldType), 12, 1, 0, 0, eD291),
  (⟨"LeafVotesModel", "code", "(III)V"⟩, prog_14_method_106_code, 4, (Option.none : Option FieldType), 12, 4, 0, 0, eD292),
  (⟨"LeafVotesModel", "joins", "(I)V"⟩, prog_14_method_107_code, 2, (Option.none : Option FieldType), 12, 2, 0, 0, eD293),
  (⟨"LeafVotesModel", "behind", "()Z"⟩, prog_14_method_111_code, 1, (Option.some FieldType.boolean), 12, 1, 0, 0, eD294),
  (⟨"LeafVotesModel", "operand", "()Z"⟩, prog_14_method_110_code, 5, (Option.some FieldType.boolean), 12, 1, 0, 0, eD295),
  (⟨"LeafVotesModel", "leafOf", "()I"⟩, prog_14_method_109_code, 1, (Option.some FieldType.int), 12, 1, 0, 0, eD296),
  (⟨"LeafVotesModel", "said", "(I)I"⟩, prog_14_method_115_code, 4, (Option.some FieldType.int), 12, 2, 0, 0, eD297),
  (⟨"LeafVotesModel", "isSaid", "(I)Z"⟩, prog_14_method_114_code, 5, (Option.some FieldType.boolean), 12, 2, 0, 0, eD298),
  (⟨"LeafVotesModel", "isLeaf", "(IIII)Z"⟩, prog_14_method_113_code, 6, (Option.some FieldType.boolean), 12, 5, 0, 0, eD299),
  (⟨"LeafVotesModel", "image", "(I)Z"⟩, prog_14_method_116_code, 3, (Option.some FieldType.boolean), 12, 2, 0, 0, eD300),
  (⟨"LeafVotesModel", "restore", "(I)Z"⟩, prog_14_method_117_code, 3, (Option.some FieldType.boolean), 12, 2, 0, 0, eD301),
  (⟨"LeafVotesModel", "count", "(I)I"⟩, prog_14_method_118_code, 2, (Option.some FieldType.int), 12, 2, 0, 0, eD302),
  (x, code, 7, some .boolean, 13, 1, 600002, 7302232, eDL)]
noncomputable def eM (k : Nat) : Option evM := match Nat.div k 32 with
  | 0 => eMs0[Nat.mod k 32]?
  | 1 => eMs1[Nat.mod k 32]?
  | 2 => eMs2[Nat.mod k 32]?
  | 3 => eMs3[Nat.mod k 32]?
  | 4 => eMs4[Nat.mod k 32]?
  | 5 => eMs5[Nat.mod k 32]?
  | 6 => eMs6[Nat.mod k 32]?
  | 7 => eMs7[Nat.mod k 32]?
  | 8 => eMs8[Nat.mod k 32]?
  | 9 => eMs9[Nat.mod k 32]?
  | _ => none
/-- field links: class and index; 1 + class + 64 (field + 64 (type + 4 final)) -/
noncomputable def eFL : List (Nat × Nat) := [(327689, 6), (458812, 6), (65632, 6), (393314, 6), (524356, 6), (118, 6), (721157, 6), (327695, 70), (458817, 70), (393317, 70), (65637, 70), (524361, 70), (121, 70), (721160, 70), (327742, 134), (47, 134), (393320, 134), (721163, 134), (327745, 198), (31, 198), (393301, 198), (65656, 198), (721074, 198), (327748, 262), (393377, 262), (721166, 262), (327751, 326), (458824, 326), (143, 326), (393403, 326), (721169, 326), (327754, 390), (393389, 390), (327698, 29126), (393338, 29126), (327702, 29190), (393354, 29190), (262229, 29190), (327706, 29254), (65670, 29254), (393358, 29254), (721088, 29254), (262234, 29254), (327709, 29318), (393361, 29318), (327712, 29382), (393364, 29382), (327715, 29446), (393367, 29446), (721125, 29446), (327718, 29510), (393370, 29510), (721128, 29510), (327721, 29574), (393380, 29574), (458943, 29574), (262241, 29574), (721253, 29574), (327724, 29638), (458834, 29638), (65667, 29638), (721064, 29638), (393383, 29638), (327727, 29702), (458852, 29702), (132, 29702), (393412, 29702), (721228, 29702), (327730, 29766), (458855, 29766), (135, 29766), (393415, 29766), (721231, 29766), (327733, 29830), (458841, 29830), (146, 29830), (393418, 29830), (721234, 29830), (15, 5), (262199, 5), (524403, 5), (721110, 5), (262202, 69), (65596, 69), (70, 69), (458827, 69), (393304, 69), (524380, 69), (589915, 69), (721137, 69), (262205, 133), (95, 133), (721140, 133), (262208, 197), (393307, 197), (98, 197), (458893, 197), (721143, 197), (262153, 261), (60, 261), (721154, 261), (262159, 28997), (65650, 28997), (721051, 28997), (458933, 28997), (589931, 28997), (262163, 29061), (65609, 29061), (721054, 29061), (458921, 29061), (589946, 29061), (262166, 29125), (65612, 29125), (721057, 29125), (458924, 29125), (589953, 29125), (262169, 29189), (262172, 29253), (73, 29253), (721071, 29253), (589939, 29253), (262175, 29317), (458906, 29317), (262178, 29381), (61, 29381), (262181, 29445), (40, 29445), (524407, 29445), (458890, 29445), (65677, 29445), (721119, 29445), (262184, 29509), (44, 29509), (721134, 29509), (262187, 29573), (50, 29573), (721113, 29573), (262190, 29637), (54, 29637), (721116, 29637), (589848, 4106), (721309, 4106), (589852, 74), (721306, 74), (589856, 138), (589833, 28874), (589839, 28938), (589842, 29002), (589845, 29066), (131083, 28675), (131090, 12355), (131102, 131), (131094, 195), (655369, 28683), (655375, 12363), (655399, 139), (655402, 203), (655405, 267), (655408, 331), (524327, 395), (393263, 395), (589874, 395), (655417, 395), (655420, 459), (589909, 459), (655433, 8715), (393330, 8715), (524324, 587), (655411, 587), (393260, 587), (589884, 587), (721027, 587), (655414, 651), (721033, 651), (393225, 28679), (393231, 12359), (393235, 12423), (393247, 4295), (393251, 263), (524396, 4105), (721292, 4105), (524364, 73), (721296, 73), (524400, 137), (721299, 137), (524406, 201), (721302, 201), (524297, 265), (721303, 265), (524316, 329), (524303, 29065), (524307, 29129), (524310, 29193), (524313, 29257), (65545, 28674), (721215, 28674), (65551, 28738), (80, 28738), (458936, 28738), (721218, 28738), (65554, 28802), (458864, 28802), (721221, 28802), (65557, 28866), (53, 28866), (721227, 28866), (65587, 258), (57, 258), (65572, 12610), (65576, 12674), (65580, 450), (65584, 514), (65560, 29250), (65563, 29314), (65566, 29378), (65569, 29442), (9, 28673), (108, 65), (458761, 8), (721278, 8), (458794, 28744), (458798, 12424), (458770, 28872), (458806, 264), (458809, 328), (458774, 29064), (458778, 29128), (458782, 29192), (458785, 29256), (458788, 29320), (458791, 29384), (196648, 4100), (721323, 4100), (196618, 28740), (196627, 28804), (196634, 28868), (720905, 28684), (721013, 76), (721030, 140), (720909, 204), (720913, 268), (720916, 332), (720922, 12684), (720926, 12748), (720932, 12812), (720936, 12876), (720942, 12940), (720946, 13004), (720951, 29452), (720958, 29516), (720965, 29580), (720974, 29644), (720981, 29708), (720990, 29772), (720999, 29836), (721008, 29900), (786433, 13), (786446, 28749), (786439, 141), (786450, 205), (786453, 269), (786456, 333), (786465, 29069), (786469, 29133), (786472, 29197), (786475, 29261), (786479, 29325), (786595, 717), (786589, 781), (786592, 845), (786605, 909), (786612, 973), (786615, 1037), (786608, 9293), (786627, 1165), (786702, 1229), (786672, 1293), (786653, 1357), (786681, 1421), (786684, 1485), (786687, 1549), (786690, 1613), (786656, 5773), (786482, 1741), (786720, 1805), (786485, 30541), (786488, 30605), (786491, 30669), (786750, 2061), (786494, 30797), (786497, 30861), (786500, 30925), (786711, 2317), (786825, 2381), (786831, 2445), (786828, 6605), (786834, 6669), (786846, 2637), (786843, 6797), (786861, 2765), (786871, 2829), (786503, 31565), (786879, 7053), (786506, 31693), (786882, 3085), (786897, 3149), (786885, 3213), (786891, 3277), (786900, 7437), (786509, 32077), (786513, 32141), (786516, 32205), (786519, 32269)]
noncomputable def eML : List (Nat × Nat) := [(851990, 8193), (720897, 9192), (720921, 8194), (327683, 9192), (327736, 3), (720931, 8196), (262147, 9192), (262193, 3), (720941, 12293), (589827, 9192), (720957, 8198), (131075, 9192), (131089, 8196), (720964, 8199), (655363, 9192), (655381, 4104), (1114447, 4105), (655387, 4106), (1114604, 4107), (1114607, 12), (1179657, 13), (1115171, 14), (1114610, 15), (1245251, 16), (1245232, 17), (1245598, 13), (1245255, 18), (720971, 8211), (393219, 9192), (720980, 12308), (524291, 9192), (720987, 8213), (65539, 9192), (720996, 8214), (3, 9192), (721005, 8215), (458755, 9192), (458769, 8196), (721012, 12312), (196609, 9192), (196617, 8194), (196626, 8196), (196633, 12293), (851994, 4121), (721016, 4122), (851999, 4123), (852004, 4124), (721020, 4125), (721040, 4126), (655393, 1002), (721023, 4128), (393239, 4129), (327757, 34), (393244, 4131), (393255, 4132), (655423, 4133), (655427, 4134), (655430, 4135), (655437, 4136), (393266, 4137), (393270, 4138), (393294, 4133), (393310, 4139), (655445, 4132), (393273, 4140), (393323, 4141), (393326, 4142), (393334, 4143), (393276, 4144), (393342, 4145), (655451, 4142), (655455, 4143), (393346, 4146), (393350, 4147), (393373, 4148), (393279, 4149), (393282, 4150), (393386, 4151), (393285, 4152), (393392, 4153), (262217, 4154), (262221, 4155), (262225, 4156), (393396, 4157), (393288, 4158), (393400, 4159), (393291, 4160), (393406, 4161), (655448, 4137), (393409, 4162), (393298, 4163), (655441, 4164), (721036, 4165), (721039, 4166), (852009, 4167), (852023, 4168), (721101, 4169), (721104, 4170), (721085, 4171), (721107, 4172), (852027, 4173), (721122, 4174), (721131, 4175), (721077, 4176), (262237, 4177), (852031, 4178), (721146, 4179), (262253, 84), (721150, 4181), (262249, 4182), (262244, 1002), (852152, 4183), (852036, 4184), (721172, 4185), (721175, 4186), (131098, 4187), (262211, 1001), (721179, 4188), (21, 4189), (65590, 3), (65601, 4156), (65605, 4182), (65615, 4190), (65640, 4154), (65644, 4191), (65647, 4171), (65619, 4192), (65622, 4193), (65653, 4194), (65659, 4177), (65663, 4195), (65673, 100), (27, 4197), (76, 4176), (36, 4198), (64, 3), (721183, 4199), (721204, 4200), (852040, 4201), (721186, 4202), (721081, 4203), (721189, 4204), (83, 4153), (87, 4157), (852044, 4205), (721044, 4206), (721193, 4207), (91, 4156), (852048, 4208), (721197, 4209), (101, 4159), (852052, 4210), (721201, 4211), (105, 4191), (852056, 4212), (721207, 4213), (852060, 4214), (721211, 4189), (852065, 4215), (852069, 4216), (852073, 4217), (721224, 4198), (852077, 4218), (852084, 4219), (852088, 4220), (721243, 4221), (721247, 4222), (852092, 4223), (852096, 4224), (721250, 4225), (721098, 4191), (852100, 4226), (852104, 4227), (721256, 1002), (721261, 4228), (458802, 4187), (458820, 4153), (721265, 4229), (458830, 4230), (458848, 4194), (458858, 4189), (458865, 1001), (458871, 4177), (458875, 4190), (458879, 4195), (458837, 4231), (458883, 4232), (458886, 100), (458844, 4233), (721269, 4234), (852108, 4235), (721272, 4236), (458896, 3), (458902, 4237), (458909, 4238), (458913, 4176), (458917, 4239), (458939, 4182), (852112, 4240), (721275, 4241), (458946, 4242), (458949, 4243), (458952, 4244), (852116, 4245), (852120, 4246), (721279, 4247), (111, 4248), (115, 4249), (124, 4211), (128, 154), (138, 4188), (852124, 4251), (721282, 4187), (852128, 4252), (721285, 4253), (524319, 4132), (524330, 4254), (524338, 4137), (524342, 4133), (524345, 4161), (524348, 4139), (524352, 4145), (524334, 4163), (721288, 4255), (524367, 4188), (524373, 4204), (524377, 160), (524385, 4207), (524389, 4209), (524393, 4211), (852132, 4257), (852136, 4258), (721305, 4259), (589865, 4132), (589870, 4260), (589881, 4261), (589887, 4137), (589899, 4164), (589877, 4133), (589895, 4262), (589902, 4263), (589905, 4145), (589912, 4139), (589891, 168), (852140, 4265), (721312, 4266), (589920, 4267), (589924, 4268), (589928, 4156), (589934, 4194), (589942, 4176), (589949, 4269), (589956, 4182), (721315, 84), (852144, 4270), (721320, 4271), (196638, 4272), (327760, 1001), (196642, 4187), (196645, 4273), (589859, 1001), (852148, 4274), (721326, 4275), (851975, 4277), (721060, 4182), (721067, 4278), (851983, 4280), (721091, 4155), (721095, 4154), (851987, 4282), (721237, 4248), (721240, 187), (851998, 4284), (786442, 4285), (852003, 4286), (851993, 8383), (786459, 9192), (786582, 4288), (852008, 4289), (786699, 4290), (786624, 4291), (786585, 4292), (786598, 197), (786602, 198), (786705, 4295), (786646, 4296), (786621, 4297), (786660, 4298), (786634, 4299), (786630, 204), (786663, 4301), (786638, 4302), (786642, 4303), (786666, 4304), (786669, 4305), (786696, 4306), (786650, 4307), (786675, 4308), (786678, 4309), (786693, 4310), (786708, 4311), (786618, 4312), (852012, 4313), (852018, 4314), (786753, 4315), (786756, 4316), (786729, 4317), (786717, 4318), (786714, 223), (786760, 4320), (786723, 4321), (852022, 4322), (786726, 4323), (786737, 4324), (786763, 4325), (852026, 4326), (786766, 4327), (852030, 4328), (786769, 4329), (852035, 4330), (852039, 4331), (786783, 4332), (786786, 4333), (786789, 4334), (786775, 4335), (786733, 4336), (786779, 4337), (786746, 4338), (786743, 4339), (786740, 4340), (852043, 4341), (786792, 4342), (786795, 4343), (786772, 4344), (786798, 4345), (852047, 4346), (852051, 4347), (786801, 4348), (786804, 4349), (852055, 4350), (852059, 4351), (852064, 4352), (852068, 4353), (852072, 4354), (852076, 4355), (852080, 4356), (852083, 4357), (786807, 4358), (786810, 4359), (786813, 264), (852087, 4361), (852091, 4362), (786819, 4363), (786822, 4364), (786816, 4365), (852095, 4366), (852099, 4367), (852103, 4368), (852107, 4369), (786849, 4370), (786852, 4371), (786837, 4372), (786840, 4373), (786855, 4374), (786858, 4375), (852111, 4376), (852115, 4377), (852119, 4378), (852123, 4379), (786868, 4380), (786865, 4381), (852127, 4382), (852131, 4383), (786873, 4384), (786876, 4385), (852135, 4386), (852139, 4387), (786903, 4388), (786888, 4389), (786906, 4390), (786909, 4391), (786912, 4392), (786894, 4393), (852143, 4394), (786919, 4395), (786915, 4396), (852147, 4397), (852151, 4398), (852155, 4399)]
noncomputable def eCL : List (Nat × Nat) := [(851976, 12), (720919, 6), (720929, 5), (720939, 10), (720949, 4), (720955, 3), (131081, 5), (720962, 11), (720969, 7), (720978, 9), (720985, 2), (720994, 1), (721003, 8), (458767, 5), (196615, 6), (196624, 5), (196631, 10), (851991, 13)]
noncomputable def eLC : List (Nat × Nat) := [(983305, 11453246121), (983306, 6871947673), (983307, 2021161081), (142, 8828121961), (786864, 8828121961)]
noncomputable def eLL : List (Nat × Nat) := [(655391, 260), (786522, 15490339628), (786524, 3829960747924), (786526, 3518839350052), (786528, 3966999153540), (786530, 14416573220), (786532, 13618064276), (786534, 15629232940), (786536, 16022987620), (786538, 16027185956), (786540, 3966994441060), (786542, 3794529395524), (786544, 13607082916), (786546, 3966329660228), (786548, 16025099172), (786550, 3381808315292), (786552, 988886347260828), (786554, 3518306149276), (786556, 4101884830620), (786558, 3930085600156), (786560, 228244), (786562, 51082020), (786564, 57899940), (786566, 3347445429036), (786568, 228148), (786570, 53705620), (786572, 201676), (786574, 964), (786576, 972), (786578, 953461461167004), (786580, 971605003152276)]
noncomputable def eDf : List (Nat × Nat) := [(0, 4722366482869645213701), (1, 615015778615681042839367473073010506732449995587124169800940495301738471336150588845864352231261482832254822349452207248253290987026429449014920662495229865035488458083227333104642329860748310057484626551048326356201532499456134542314648544408956394592459030533), (2, 105312291668557186697940328428868962942036654730654173964043026437), (3, 526561458342785933489701642144344814710183179205941212427310858241), (4, 64768721058339397872812226260225522477566270669483345268053665078448371969574003559605412116992092370864640577863940904844504583485401314518329517987190929068161500447299722086305691995554094153739543008311603662531204871050512883141095540239932862796563956353330828817734451716493849807172122000923162463979473099086714896385), (5, 6820942443095260582331969891686483830174105821721146412513667254440836583513176556499421721843601511605251981128739272942182402363092917373941694590222147049419357936618953170652079091227788042360001593419402243131725190681178078766608229816537277419331403344995936790113064685587745604725956948317024411174492296276009291539435165326350557546659123632929504287898048176532512409859219521537), (6, 497323236409786642155487560438489397287154180328757380525898579690763241779943442481157), (7, 130234656892184653790649683548840076286977210463693726383127330813498085166628531277519317422213244603065173883495125337423779112741975811275587650997859803646520168849918365026224098954377174637673457499527048655463088109571319089858609153), (8, 5839923990556409879861936307303738418533635263754503578782891680767207413317025844530967200282395657617779817435647126206817530512426922321265352424275809578702564225134473720004247726519956275201), (9, 55453393882416297191580026395775543234868191397116460237479680802474769947913035351427515593110502498702644197460865030264226578433), (10, 5515652263101987298729896192229025077584086238337777519894578304776512847081542503858860747061991735191859367561901795762838713415841381494556895014338259222011607824419638503830633792880283359810256914048175206039557), (11, 32210989974856050855593990222340313050517507761143618199285491659704924262030857711419379368525668045562279078496672852583841525154579472813960314268311388294011279704754258264525107537842670555198750913341934007312990322388725009167666063424986382316500917502725484986128519403287911255512178244667730312717165830777915252977009227323282022687545536570896237648297470935692312778549607172462246433479108591616005), (12, 283082173536961452469212988413658001010877297564831463546633502759727004833985347901209900841826515613137021280578594907584580891047360743465905455952628020769206126485548803353670942690270639108941182014500300340489273045086980285593129858221627559235978544690405985457602568457813180973373282519875785768781104470194625639795043213624317712885444578046887037401208711755913851983261197770964343108521733301648663582101607835686048798322926455039928602305916713753662285351403632668338388607162245284383838723024917536892156609182091041141740133738329903343987848775286870692990269429041857792977997917620662696988144322228392154991584973975367104191818508940518547873029884971722206303134956497629029060204502414647164982652812877315884870072504353373079983167247471245470733069192974872191554904030216899963874898733410602063822930669451717518867237682103791543836597385178257454626520707628762403741046015245282859122637253769698822604735305998595562691080034611865040346442403019324479966913088103133592849091540258273582892590599303569751618535431321153104206939756470496540146201293917862868805555856591392696990902045540018139131915330893864173076102994747276411352603004117372516034165900243491063423041537)]
noncomputable def eNf : List (Nat × Nat) := [(0, 2), (1, 13), (2, 4), (3, 4), (4, 16), (5, 19), (6, 5), (7, 12), (8, 10), (9, 7), (10, 11), (11, 20), (12, 57)]
noncomputable def hCallM (c : Nat) (kind : Nat) : evH := match eM c with
  | some q => hCall c q.2.2.2.2.2.1 (cond (Nat.beq kind 0) 64 q.2.2.2.2.1) q.2.2.1 (match q.2.2.2.1 with | none => true | some _ => false) q.2.2.2.2.2.2.1 q.2.2.2.2.2.2.2.1
  | none => hBad
noncomputable def eKm (kind vk : Nat) : Bool := cond (Nat.beq kind vk) true (cond (Nat.beq kind 2) (Nat.beq vk 3) false)
noncomputable def hCallV (v kind : Nat) : evH := cond (Nat.beq v 0) hBad (cond (Nat.beq v 9192) (cond (Nat.beq kind 2) hObj hBad) (cond (Nat.beq v 1001) (cond (Nat.beq kind 0) hCopy hBad) (cond (Nat.beq v 1002) (cond (Nat.beq kind 0) hMin hBad) (cond (eKm kind (Nat.div v 4096)) (hCallM (Nat.sub (Nat.mod v 4096) 1) kind) hBad))))
noncomputable def hCallX (own idx kind : Nat) : evH := hCallV (eLook eML (Nat.add (Nat.mul 65536 own) idx)) kind
noncomputable def eTyc (tc : Nat) (ty : FieldType) : Bool := match ty with
  | .int => Nat.beq tc 0
  | .boolean => Nat.beq tc 1
  | .long => Nat.beq tc 2
  | .object _ => Nat.beq tc 3
  | .array _ => Nat.beq tc 3
  | _ => false
noncomputable def hGetX (own idx : Nat) : evH := match eLook eFL (Nat.add (Nat.mul 65536 own) idx) with
  | 0 => hBad
  | c + 1 => hGet (Nat.mod c 64) (Nat.mod (Nat.div c 64) 64)
noncomputable def hPutX (ini : Bool) (own idx : Nat) : evH := match eLook eFL (Nat.add (Nat.mul 65536 own) idx) with
  | 0 => hBad
  | c + 1 => cond (cond (Nat.beq (Nat.div c 16384) 0) true (cond ini (Nat.beq (Nat.mod c 64) own) false)) (hPut (Nat.mod c 64) (Nat.mod (Nat.div c 64) 64) (Nat.mod (Nat.div c 4096) 4)) hBad
noncomputable def hNewX (own idx : Nat) : evH := match eLook eCL (Nat.add (Nat.mul 65536 own) idx) with
  | 0 => hBad
  | c + 1 => cond (Nat.blt c 13) (hNew c (eLook eNf c) (eLook eDf c)) hBad
noncomputable def hConst (l : List (Nat × Nat)) (own idx len : Nat) : evH := match eLook l (Nat.add (Nat.mul 65536 own) idx) with
  | 0 => hBad
  | c + 1 => hPush (c + 1) len
noncomputable def hNewarr (t : ArrayType) : evH := match t with
  | .int => hNewa 64 1 2
  | .long => hNewa 65 4 2
  | .byte => hNewa 66 1 2
  | .boolean => hNewa 67 1 2
  | _ => hBad
noncomputable def hPushS (b : Nat) (n : Int) (len : Nat) : evH := cond (decide (-(b : Int) ≤ n ∧ n < b)) (hPush (eCi (eN32 n)) len) hBad
noncomputable def hANewX (own idx : Nat) : evH := match eLook eCL (Nat.add (Nat.mul 65536 own) idx) with
  | 0 => hBad
  | c + 1 => cond (cond (Nat.beq c 3) true (Nat.beq c 4)) (hNewa (Nat.add 128 c) 5 3) hBad
noncomputable def hIx (x : Nat) (h : evH) : evH := cond (Nat.blt x 65536) h hBad
noncomputable def eLn (len n : Nat) (h : evH) : evH := cond (Nat.beq len n) h hBad
noncomputable def eI (nL own : Nat) (rt : Option FieldType) (ini : Bool) (i : Instr) (len : Nat) : evH := match i with
  | .aload j => eLn len 2 (hLoad eIsA j 2)
  | .aload_n j => eLn len 1 (hLoad eIsA j.val 1)
  | .iload j => eLn len 2 (hLoad eIsI j 2)
  | .iload_n j => eLn len 1 (hLoad eIsI j.val 1)
  | .lload j => eLn len 2 (hLoad (fun v => Nat.beq (eTg v) 4) j 2)
  | .lload_n j => eLn len 1 (hLoad (fun v => Nat.beq (eTg v) 4) j.val 1)
  | .astore j => eLn len 2 (hStore eIsA nL j 2)
  | .astore_n j => eLn len 1 (hStore eIsA nL j.val 1)
  | .istore j => eLn len 2 (hStore eIsI nL j 2)
  | .istore_n j => eLn len 1 (hStore eIsI nL j.val 1)
  | .lstore j => eLn len 2 (hStore2 nL j 2)
  | .lstore_n j => eLn len 1 (hStore2 nL j.val 1)
  | .iconst n => eLn len 1 (hPush (eCi (eN32 n)) 1)
  | .bipush n => eLn len 2 (hPushS 128 n 2)
  | .sipush n => eLn len 3 (hPushS 32768 n 3)
  | .lconst n => eLn len 1 (hPush (Nat.add (Nat.mul 8 n.val) 4) 1)
  | .ldc x => eLn len 2 (hIx x (cond (cond (Nat.beq own 10) (Nat.beq x 19) false) (hPush 6 2) (hConst eLC own x 2)))
  | .ldc_w x => eLn len 3 (hIx x (hConst eLC own x 3))
  | .ldc2_w x => eLn len 3 (hIx x (hConst eLL own x 3))
  | .iadd => eLn len 1 (hOp2 eAdd)
  | .isub => eLn len 1 (hOp2 eSub)
  | .imul => eLn len 1 (hOp2 eMul)
  | .iand => eLn len 1 (hOp2 eAnd)
  | .ior => eLn len 1 (hOp2 (eOp fOr))
  | .ixor => eLn len 1 (hOp2 (eOp fXor))
  | .ishl => eLn len 1 (hOp2 eShl)
  | .ishr => eLn len 1 (hOp2 eShr)
  | .iushr => eLn len 1 (hOp2 eUsh)
  | .idiv => eLn len 1 (hOp2 (ePos fDiv (fI (fun x y => x / y))))
  | .irem => eLn len 1 (hOp2 (ePos fRem (fI (fun x y => x - x / y * y))))
  | .iinc j c => eLn len 3 (hIinc nL j c)
  | .goto off => eLn len 3 (hGoto off)
  | .ifCond o off => eLn len 3 (hIf o off)
  | .if_icmp o off => eLn len 3 (hIcmp o off)
  | .dup => eLn len 1 (hDup)
  | .pop => eLn len 1 (hPop)
  | .dup2 => eLn len 1 (hDup2)
  | .getfield x => eLn len 3 (hIx x (cond (Nat.beq own 17) (cond (Nat.beq x 9) (hGetT 14) (cond (Nat.beq x 15) (hGetT 1) hBad)) (hGetX own x)))
  | .getstatic x => eLn len 3 (cond (Nat.beq own 17) (cond (Nat.beq x 38) (hPush 9 3) (cond (Nat.beq x 1053) (hPush 22 3) hBad)) (cond (Nat.beq own 1) (cond (Nat.beq x 90) (hPush 46 3) (cond (Nat.beq x 93) (hPush 54 3) hBad)) (cond (Nat.beq own 7) (cond (Nat.beq x 175) (hPush 46 3) (cond (Nat.beq x 178) (hPush 54 3) hBad)) hBad)))
  | .putfield x => eLn len 3 (hIx x (hPutX ini own x))
  | .new x => eLn len 3 (hIx x (hNewX own x))
  | .newarray t => eLn len 2 (hNewarr t)
  | .iaload => eLn len 1 (hIald own)
  | .laload => eLn len 1 (hAld (fun k => Nat.beq k 65))
  | .baload => eLn len 1 (hBald)
  | .aaload => eLn len 1 (hAld (fun k => Nat.ble 128 k))
  | .iastore => eLn len 1 (hAst (fun k => Nat.beq k 64))
  | .lastore => eLn len 1 (hAst (fun k => Nat.beq k 65))
  | .bastore => eLn len 1 (hAst (fun k => cond (Nat.beq k 66) true (Nat.beq k 67)))
  | .aastore => eLn len 1 (hAst (fun k => Nat.ble 128 k))
  | .anewarray x => eLn len 3 (hIx x (hANewX own x))
  | .arraylength => eLn len 1 (hLen)
  | .invokevirtual x => eLn len 3 (hIx x (hCallX own x 1))
  | .invokestatic x => eLn len 3 (hIx x (hCallX own x 0))
  | .invokespecial x => eLn len 3 (hIx x (hCallX own x 2))
  | .ireturn => eLn len 1 (hRetI rt)
  | .return_ => eLn len 1 (cond (Option.isNone rt) hRetV hBad)
  | .i2l => eLn len 1 (hI2l)
  | .i2b => eLn len 1 (hI2b)
  | .i2c => eLn len 1 (hI2c)
  | .ladd => eLn len 1 (hL2 fLadd)
  | .lmul => eLn len 1 (hL2 fLmul)
  | .lor => eLn len 1 (hL2 fLor)
  | .lshl => eLn len 1 (hLsh)
  | .lcmp => eLn len 1 (hLcmp)
  | .tableswitch d lo hi offs => hSw d lo hi offs
  | _ => hBad
noncomputable def eIni (q : evM) : Bool := cond (Nat.beq q.2.2.2.2.2.2.1 0) false (cond (Nat.beq q.2.2.2.2.1 13) false true)
noncomputable def eIsThr (t : Lean.RArray (Nat × Instr × Nat)) (pc : Nat) : Bool := cond (decide (Lean.RArray.get t pc = (pc, .new 152, 3))) (cond (decide (Lean.RArray.get t (pc + 3) = (pc + 3, .dup, 1))) (cond (decide (Lean.RArray.get t (pc + 4) = (pc + 4, .invokespecial 154, 3))) (decide (Lean.RArray.get t (pc + 7) = (pc + 7, .athrow, 1))) false) false) false
noncomputable def eH (mi pc : Nat) : evH := match eM mi with
  | some q => cond (cond (Nat.beq q.2.2.2.2.1 11) (eIsThr q.2.2.2.2.2.2.2.2 pc) false) hThr <| cond (cond (Nat.beq q.2.2.2.2.1 13) (Nat.beq pc 23) false) hStop <| cond (Nat.beq (Lean.RArray.get q.2.2.2.2.2.2.2.2 pc).1 pc) (eI q.2.2.1 q.2.2.2.2.1 q.2.2.2.1 (eIni q) (Lean.RArray.get q.2.2.2.2.2.2.2.2 pc).2.1 (Lean.RArray.get q.2.2.2.2.2.2.2.2 pc).2.2) hBad
  | none => hBad
noncomputable def eFs (st : List Nat) (k : List Nat → Bool) : Bool := @List.rec Nat (fun _ => Bool) (k []) (fun v r _ => eF v (fun v => k (v :: r))) st
noncomputable def eRun (f : Nat) : Nat → Nat → evK → Nat → Nat → List Nat → evG → Bool :=
  @Nat.rec (fun _ => Nat → Nat → evK → Nat → Nat → List Nat → evG → Bool) (fun _ _ _ _ _ _ _ => false)
    (fun _ ih d mi k pc L st g => eH mi pc (fun pc L st g => eF pc (fun pc => eF L (fun L => eFs st (fun st => ih d mi k pc L st g)))) (fun mi vs g k => @Nat.rec (fun _ => Bool) false (fun d _ => eF (ePack vs 0 0) (fun L => ih d mi k 0 L [] g)) d) k pc L st g) f
/-- an empty heap: a tree of 1024 places -/
noncomputable def eT0 (d lo : Nat) : Lean.RArray Nat := @Nat.rec (fun _ => Nat → Lean.RArray Nat) (fun _ => .leaf 0) (fun d ih lo => .branch (Nat.add lo (Nat.pow 2 d)) (ih lo) (ih (Nat.add lo (Nat.pow 2 d)))) d lo
end EvTabs
