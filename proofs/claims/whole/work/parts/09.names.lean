set_option maxRecDepth 20000 in
theorem me_0 : am_me 0 = (⟨"SweetWaits", "<init>", "()V"⟩, prog_1_method_1_code, 1, (Option.none : Option Jvm.ClassFile.FieldType), 11, 0, false) := rfl
set_option maxRecDepth 20000 in
theorem me_1 : am_me 1 = (⟨"SweetWaits$Children", "<init>", "()V"⟩, prog_3_method_1_code, 1, (Option.none : Option Jvm.ClassFile.FieldType), 1, 0, false) := rfl
set_option maxRecDepth 20000 in
theorem me_2 : am_me 2 = (⟨"SweetWaits$Tape", "<init>", "()V"⟩, prog_11_method_1_code, 1, (Option.none : Option Jvm.ClassFile.FieldType), 9, 0, false) := rfl
set_option maxRecDepth 20000 in
theorem me_3 : am_me 3 = (⟨"SweetWaits$Reader", "<init>", "(LSweetWaits$Tape;)V"⟩, prog_9_method_1_code, 2, (Option.none : Option Jvm.ClassFile.FieldType), 7, 1, false) := rfl
set_option maxRecDepth 20000 in
theorem me_4 : am_me 4 = (⟨"SweetWaits$Asked", "<init>", "()V"⟩, prog_2_method_1_code, 1, (Option.none : Option Jvm.ClassFile.FieldType), 0, 0, false) := rfl
set_option maxRecDepth 20000 in
theorem me_5 : am_me 5 = (⟨"SweetWaits$Group", "<init>", "()V"⟩, prog_6_method_1_code, 1, (Option.none : Option Jvm.ClassFile.FieldType), 4, 0, false) := rfl
set_option maxRecDepth 20000 in
theorem me_6 : am_me 6 = (⟨"SweetWaits$Ratio", "<init>", "()V"⟩, prog_8_method_1_code, 1, (Option.none : Option Jvm.ClassFile.FieldType), 6, 0, false) := rfl
set_option maxRecDepth 20000 in
theorem me_7 : am_me 7 = (⟨"SweetWaits$Curve", "<init>", "(LSweetWaits$Ratio;)V"⟩, prog_4_method_1_code, 2, (Option.none : Option Jvm.ClassFile.FieldType), 2, 1, false) := rfl
set_option maxRecDepth 20000 in
theorem me_8 : am_me 8 = (⟨"SweetWaits$Sides", "<init>", "()V"⟩, prog_10_method_1_code, 1, (Option.none : Option Jvm.ClassFile.FieldType), 8, 0, false) := rfl
set_option maxRecDepth 20000 in
theorem me_9 : am_me 9 = (⟨"SweetWaits$World", "<init>", "()V"⟩, prog_12_method_1_code, 1, (Option.none : Option Jvm.ClassFile.FieldType), 10, 0, false) := rfl
set_option maxRecDepth 20000 in
theorem me_10 : am_me 10 = (⟨"SweetWaits$Draws", "<init>", "()V"⟩, prog_5_method_1_code, 1, (Option.none : Option Jvm.ClassFile.FieldType), 3, 0, false) := rfl
set_option maxRecDepth 20000 in
theorem me_11 : am_me 11 = (⟨"SweetWaits", "child", "(IIIIII)I"⟩, prog_1_method_2_code, 9, (Option.some Jvm.ClassFile.FieldType.int), 11, 6, false) := rfl
set_option maxRecDepth 20000 in
theorem me_12 : am_me 12 = (⟨"SweetWaits", "factCan", "(II)Z"⟩, prog_1_method_65_code, 2, (Option.some Jvm.ClassFile.FieldType.boolean), 11, 2, true) := rfl
set_option maxRecDepth 20000 in
theorem me_13 : am_me 13 = (⟨"SweetWaits", "within", "(III)Z"⟩, prog_1_method_67_code, 3, (Option.some Jvm.ClassFile.FieldType.boolean), 11, 3, true) := rfl
set_option maxRecDepth 20000 in
theorem me_14 : am_me 14 = (⟨"SweetWaits", "refuse", "(I)I"⟩, prog_1_method_61_code, 2, (Option.some Jvm.ClassFile.FieldType.int), 11, 1, false) := rfl
set_option maxRecDepth 20000 in
theorem me_15 : am_me 15 = (⟨"SweetWaits$Children", "addChild", "()I"⟩, prog_3_method_4_code, 3, (Option.some Jvm.ClassFile.FieldType.int), 1, 0, false) := rfl
set_option maxRecDepth 20000 in
theorem me_16 : am_me 16 = (⟨"SweetWaits$Children", "put", "(III)I"⟩, prog_3_method_6_code, 5, (Option.some Jvm.ClassFile.FieldType.int), 1, 3, false) := rfl
set_option maxRecDepth 20000 in
theorem me_17 : am_me 17 = (⟨"SweetWaits$Children", "at", "(II)I"⟩, prog_3_method_5_code, 4, (Option.some Jvm.ClassFile.FieldType.int), 1, 2, false) := rfl
set_option maxRecDepth 20000 in
theorem me_18 : am_me 18 = (⟨"SweetWaits$Children", "has", "(I)Z"⟩, prog_3_method_3_code, 2, (Option.some Jvm.ClassFile.FieldType.boolean), 1, 1, false) := rfl
set_option maxRecDepth 20000 in
theorem me_19 : am_me 19 = (⟨"SweetWaits", "accept", "(I)I"⟩, prog_1_method_62_code, 2, (Option.some Jvm.ClassFile.FieldType.int), 11, 1, false) := rfl
set_option maxRecDepth 20000 in
theorem me_20 : am_me 20 = (⟨"SweetWaits", "fact", "(III)I"⟩, prog_1_method_3_code, 4, (Option.some Jvm.ClassFile.FieldType.int), 11, 3, false) := rfl
set_option maxRecDepth 20000 in
theorem me_21 : am_me 21 = (⟨"SweetWaits", "change", "(IIIZ)I"⟩, prog_1_method_63_code, 5, (Option.some Jvm.ClassFile.FieldType.int), 11, 4, false) := rfl
set_option maxRecDepth 20000 in
theorem me_22 : am_me 22 = (⟨"SweetWaits", "promise", "(II)I"⟩, prog_1_method_4_code, 5, (Option.some Jvm.ClassFile.FieldType.int), 11, 2, false) := rfl
set_option maxRecDepth 20000 in
theorem me_23 : am_me 23 = (⟨"SweetWaits", "dealt", "(II)I"⟩, prog_1_method_5_code, 3, (Option.some Jvm.ClassFile.FieldType.int), 11, 2, false) := rfl
set_option maxRecDepth 20000 in
theorem me_24 : am_me 24 = (⟨"SweetWaits", "minute", "(III)I"⟩, prog_1_method_6_code, 5, (Option.some Jvm.ClassFile.FieldType.int), 11, 3, false) := rfl
set_option maxRecDepth 20000 in
theorem me_25 : am_me 25 = (⟨"SweetWaits", "later", "(III)I"⟩, prog_1_method_7_code, 5, (Option.some Jvm.ClassFile.FieldType.int), 11, 3, false) := rfl
set_option maxRecDepth 20000 in
theorem me_26 : am_me 26 = (⟨"SweetWaits", "of", "(II)I"⟩, prog_1_method_8_code, 3, (Option.some Jvm.ClassFile.FieldType.int), 11, 2, false) := rfl
set_option maxRecDepth 20000 in
theorem me_27 : am_me 27 = (⟨"SweetWaits$Children", "side", "(I)I"⟩, prog_3_method_10_code, 2, (Option.some Jvm.ClassFile.FieldType.int), 1, 1, false) := rfl
set_option maxRecDepth 20000 in
theorem me_28 : am_me 28 = (⟨"SweetWaits$Children", "isTried", "(I)Z"⟩, prog_3_method_9_code, 2, (Option.some Jvm.ClassFile.FieldType.boolean), 1, 1, false) := rfl
set_option maxRecDepth 20000 in
theorem me_29 : am_me 29 = (⟨"SweetWaits", "meansTried", "(I)Z"⟩, prog_1_method_66_code, 1, (Option.some Jvm.ClassFile.FieldType.boolean), 11, 1, true) := rfl
set_option maxRecDepth 20000 in
theorem me_30 : am_me 30 = (⟨"SweetWaits", "terms", "(II)I"⟩, prog_1_method_9_code, 4, (Option.some Jvm.ClassFile.FieldType.int), 11, 2, false) := rfl
set_option maxRecDepth 20000 in
theorem me_31 : am_me 31 = (⟨"SweetWaits", "feed", "(IIIII)I"⟩, prog_1_method_10_code, 6, (Option.some Jvm.ClassFile.FieldType.int), 11, 5, false) := rfl
set_option maxRecDepth 20000 in
theorem me_32 : am_me 32 = (⟨"SweetWaits$Tape", "hasRoom", "(I)Z"⟩, prog_11_method_2_code, 2, (Option.some Jvm.ClassFile.FieldType.boolean), 9, 1, false) := rfl
set_option maxRecDepth 20000 in
theorem me_33 : am_me 33 = (⟨"SweetWaits$Tape", "add", "(I)V"⟩, prog_11_method_3_code, 3, (Option.none : Option Jvm.ClassFile.FieldType), 9, 1, false) := rfl
set_option maxRecDepth 20000 in
theorem me_34 : am_me 34 = (⟨"SweetWaits", "end", "(I)I"⟩, prog_1_method_11_code, 2, (Option.some Jvm.ClassFile.FieldType.int), 11, 1, false) := rfl
set_option maxRecDepth 20000 in
theorem me_35 : am_me 35 = (⟨"SweetWaits", "row", "(I)I"⟩, prog_1_method_12_code, 5, (Option.some Jvm.ClassFile.FieldType.int), 11, 1, false) := rfl
set_option maxRecDepth 20000 in
theorem me_36 : am_me 36 = (⟨"SweetWaits", "putWait", "(II)Z"⟩, prog_1_method_13_code, 7, (Option.some Jvm.ClassFile.FieldType.boolean), 11, 2, false) := rfl
set_option maxRecDepth 20000 in
theorem me_37 : am_me 37 = (⟨"SweetWaits$Tape", "intAt", "(I)I"⟩, prog_11_method_5_code, 4, (Option.some Jvm.ClassFile.FieldType.int), 9, 1, false) := rfl
set_option maxRecDepth 20000 in
theorem me_38 : am_me 38 = (⟨"SweetWaits$Tape", "byteAt", "(I)I"⟩, prog_11_method_4_code, 2, (Option.some Jvm.ClassFile.FieldType.int), 9, 1, false) := rfl
set_option maxRecDepth 20000 in
theorem me_39 : am_me 39 = (⟨"SweetWaits", "text", "()I"⟩, prog_1_method_14_code, 2, (Option.some Jvm.ClassFile.FieldType.int), 11, 0, false) := rfl
set_option maxRecDepth 20000 in
theorem me_40 : am_me 40 = (⟨"SweetWaits$Reader", "read", "()LSweetWaits$Law;"⟩, prog_9_method_2_code, 1, (Option.some (Jvm.ClassFile.FieldType.object "SweetWaits$Law")), 7, 0, false) := rfl
set_option maxRecDepth 20000 in
theorem me_41 : am_me 41 = (⟨"SweetWaits$Reader", "goOn", "()V"⟩, prog_9_method_3_code, 3, (Option.none : Option Jvm.ClassFile.FieldType), 7, 0, false) := rfl
set_option maxRecDepth 20000 in
theorem me_42 : am_me 42 = (⟨"SweetWaits$Reader", "kindOf", "(I)I"⟩, prog_9_method_4_code, 1, (Option.some Jvm.ClassFile.FieldType.int), 7, 1, true) := rfl
set_option maxRecDepth 20000 in
theorem me_43 : am_me 43 = (⟨"SweetWaits$Reader", "readClauses", "()Z"⟩, prog_9_method_8_code, 2, (Option.some Jvm.ClassFile.FieldType.boolean), 7, 0, false) := rfl
set_option maxRecDepth 20000 in
theorem me_44 : am_me 44 = (⟨"SweetWaits$Reader", "readClause", "(I)Z"⟩, prog_9_method_9_code, 3, (Option.some Jvm.ClassFile.FieldType.boolean), 7, 1, false) := rfl
set_option maxRecDepth 20000 in
theorem me_45 : am_me 45 = (⟨"SweetWaits$Reader", "headHere", "()I"⟩, prog_9_method_10_code, 1, (Option.some Jvm.ClassFile.FieldType.int), 7, 0, false) := rfl
set_option maxRecDepth 20000 in
theorem me_46 : am_me 46 = (⟨"SweetWaits$Reader", "isWord", "(Ljava/lang/String;)Z"⟩, prog_9_method_6_code, 4, (Option.some Jvm.ClassFile.FieldType.boolean), 7, 1, false) := rfl
set_option maxRecDepth 20000 in
theorem me_47 : am_me 47 = (⟨"SweetWaits$Reader", "readSum", "(I)Z"⟩, prog_9_method_17_code, 5, (Option.some Jvm.ClassFile.FieldType.boolean), 7, 1, false) := rfl
set_option maxRecDepth 20000 in
theorem me_48 : am_me 48 = (⟨"SweetWaits$Reader", "readTerm", "(I)Z"⟩, prog_9_method_18_code, 5, (Option.some Jvm.ClassFile.FieldType.boolean), 7, 1, false) := rfl
set_option maxRecDepth 20000 in
theorem me_49 : am_me 49 = (⟨"SweetWaits$Reader", "readPart", "(I)Z"⟩, prog_9_method_19_code, 3, (Option.some Jvm.ClassFile.FieldType.boolean), 7, 1, false) := rfl
set_option maxRecDepth 20000 in
theorem me_50 : am_me 50 = (⟨"SweetWaits$Reader", "isSign", "(C)Z"⟩, prog_9_method_5_code, 2, (Option.some Jvm.ClassFile.FieldType.boolean), 7, 1, false) := rfl
set_option maxRecDepth 20000 in
theorem me_51 : am_me 51 = (⟨"SweetWaits$Reader", "readBracketed", "(IC)Z"⟩, prog_9_method_16_code, 4, (Option.some Jvm.ClassFile.FieldType.boolean), 7, 2, false) := rfl
set_option maxRecDepth 20000 in
theorem me_52 : am_me 52 = (⟨"SweetWaits$Reader", "readTest", "(I)Z"⟩, prog_9_method_11_code, 5, (Option.some Jvm.ClassFile.FieldType.boolean), 7, 1, false) := rfl
set_option maxRecDepth 20000 in
theorem me_53 : am_me 53 = (⟨"SweetWaits$Reader", "readBoth", "(I)Z"⟩, prog_9_method_12_code, 5, (Option.some Jvm.ClassFile.FieldType.boolean), 7, 1, false) := rfl
set_option maxRecDepth 20000 in
theorem me_54 : am_me 54 = (⟨"SweetWaits$Reader", "readPlain", "(I)Z"⟩, prog_9_method_14_code, 4, (Option.some Jvm.ClassFile.FieldType.boolean), 7, 1, false) := rfl
set_option maxRecDepth 20000 in
theorem me_55 : am_me 55 = (⟨"SweetWaits$Reader", "readComparison", "(I)Z"⟩, prog_9_method_15_code, 3, (Option.some Jvm.ClassFile.FieldType.boolean), 7, 1, false) := rfl
set_option maxRecDepth 20000 in
theorem me_56 : am_me 56 = (⟨"SweetWaits$Reader", "put", "(I)V"⟩, prog_9_method_7_code, 2, (Option.none : Option Jvm.ClassFile.FieldType), 7, 1, false) := rfl
set_option maxRecDepth 20000 in
theorem me_57 : am_me 57 = (⟨"SweetWaits$Reader", "aim", "(I)V"⟩, prog_9_method_13_code, 2, (Option.none : Option Jvm.ClassFile.FieldType), 7, 1, false) := rfl
set_option maxRecDepth 20000 in
theorem me_58 : am_me 58 = (⟨"SweetWaits$Reader", "wordHere", "()I"⟩, prog_9_method_20_code, 1, (Option.some Jvm.ClassFile.FieldType.int), 7, 0, false) := rfl
set_option maxRecDepth 20000 in
theorem me_59 : am_me 59 = (⟨"java/util/Arrays", "copyOf", "([II)[I"⟩, prog_22_method_123_code, 3, (Option.some (Jvm.ClassFile.FieldType.array Jvm.ClassFile.FieldType.int)), 16, 2, true) := rfl
set_option maxRecDepth 20000 in
theorem me_60 : am_me 60 = (⟨"SweetWaits$Law", "<init>", "([I[I)V"⟩, prog_7_method_1_code, 3, (Option.none : Option Jvm.ClassFile.FieldType), 5, 2, false) := rfl
set_option maxRecDepth 20000 in
theorem me_61 : am_me 61 = (⟨"SweetWaits$Children", "addLaw", "(LSweetWaits$Law;)I"⟩, prog_3_method_8_code, 2, (Option.some Jvm.ClassFile.FieldType.int), 1, 1, false) := rfl
set_option maxRecDepth 20000 in
theorem me_62 : am_me 62 = (⟨"SweetWaits", "fault", "()I"⟩, prog_1_method_15_code, 1, (Option.some Jvm.ClassFile.FieldType.int), 11, 0, false) := rfl
set_option maxRecDepth 20000 in
theorem me_63 : am_me 63 = (⟨"SweetWaits", "group", "(II)I"⟩, prog_1_method_16_code, 5, (Option.some Jvm.ClassFile.FieldType.int), 11, 2, false) := rfl
set_option maxRecDepth 20000 in
theorem me_64 : am_me 64 = (⟨"SweetWaits", "gather", "(LSweetWaits$Group;I)Z"⟩, prog_1_method_64_code, 5, (Option.some Jvm.ClassFile.FieldType.boolean), 11, 2, false) := rfl
set_option maxRecDepth 20000 in
theorem me_65 : am_me 65 = (⟨"SweetWaits$Group", "takeAll", "(I)V"⟩, prog_6_method_3_code, 3, (Option.none : Option Jvm.ClassFile.FieldType), 4, 1, false) := rfl
set_option maxRecDepth 20000 in
theorem me_66 : am_me 66 = (⟨"SweetWaits$Group", "add", "(I)V"⟩, prog_6_method_2_code, 2, (Option.none : Option Jvm.ClassFile.FieldType), 4, 1, false) := rfl
set_option maxRecDepth 20000 in
theorem me_67 : am_me 67 = (⟨"SweetWaits$Children", "lawAt", "(I)LSweetWaits$Law;"⟩, prog_3_method_7_code, 2, (Option.some (Jvm.ClassFile.FieldType.object "SweetWaits$Law")), 1, 1, false) := rfl
set_option maxRecDepth 20000 in
theorem me_68 : am_me 68 = (⟨"SweetWaits$Asked", "ask", "([II)V"⟩, prog_2_method_2_code, 4, (Option.none : Option Jvm.ClassFile.FieldType), 0, 2, false) := rfl
set_option maxRecDepth 20000 in
theorem me_69 : am_me 69 = (⟨"SweetWaits$Law", "tell", "(ILSweetWaits$Asked;)I"⟩, prog_7_method_3_code, 8, (Option.some Jvm.ClassFile.FieldType.int), 5, 2, false) := rfl
set_option maxRecDepth 20000 in
theorem me_70 : am_me 70 = (⟨"SweetWaits$Law", "work", "(IILSweetWaits$Asked;)I"⟩, prog_7_method_4_code, 10, (Option.some Jvm.ClassFile.FieldType.int), 5, 3, false) := rfl
set_option maxRecDepth 20000 in
theorem me_71 : am_me 71 = (⟨"SweetWaits$Asked", "wordAt", "(I)I"⟩, prog_2_method_3_code, 2, (Option.some Jvm.ClassFile.FieldType.int), 0, 1, false) := rfl
set_option maxRecDepth 20000 in
theorem me_72 : am_me 72 = (⟨"SweetWaits$Law", "jumpTarget", "(II)I"⟩, prog_7_method_5_code, 2, (Option.some Jvm.ClassFile.FieldType.int), 5, 2, true) := rfl
set_option maxRecDepth 20000 in
theorem me_73 : am_me 73 = (⟨"SweetWaits$Law", "join", "(III)I"⟩, prog_7_method_6_code, 3, (Option.some Jvm.ClassFile.FieldType.int), 5, 3, true) := rfl
set_option maxRecDepth 20000 in
theorem me_74 : am_me 74 = (⟨"SweetWaits$Law", "hold", "(J)I"⟩, prog_7_method_7_code, 2, (Option.some Jvm.ClassFile.FieldType.int), 5, 1, true) := rfl
set_option maxRecDepth 20000 in
theorem me_75 : am_me 75 = (⟨"SweetWaits", "belongs", "(II)Z"⟩, prog_1_method_17_code, 3, (Option.some Jvm.ClassFile.FieldType.boolean), 11, 2, false) := rfl
set_option maxRecDepth 20000 in
theorem me_76 : am_me 76 = (⟨"SweetWaits$Children", "isFound", "(I)Z"⟩, prog_3_method_12_code, 2, (Option.some Jvm.ClassFile.FieldType.boolean), 1, 1, false) := rfl
set_option maxRecDepth 20000 in
theorem me_77 : am_me 77 = (⟨"SweetWaits$Children", "thing", "(I)I"⟩, prog_3_method_11_code, 2, (Option.some Jvm.ClassFile.FieldType.int), 1, 1, false) := rfl
set_option maxRecDepth 20000 in
theorem me_78 : am_me 78 = (⟨"SweetWaits", "member", "(II)I"⟩, prog_1_method_18_code, 3, (Option.some Jvm.ClassFile.FieldType.int), 11, 2, false) := rfl
set_option maxRecDepth 20000 in
theorem me_79 : am_me 79 = (⟨"SweetWaits", "stays", "(II)I"⟩, prog_1_method_19_code, 3, (Option.some Jvm.ClassFile.FieldType.int), 11, 2, false) := rfl
set_option maxRecDepth 20000 in
theorem me_80 : am_me 80 = (⟨"SweetWaits$Curve", "take", "(LSweetWaits$Children;LSweetWaits$Group;)V"⟩, prog_4_method_2_code, 7, (Option.none : Option Jvm.ClassFile.FieldType), 2, 2, false) := rfl
set_option maxRecDepth 20000 in
theorem me_81 : am_me 81 = (⟨"java/util/Arrays", "fill", "([II)V"⟩, prog_22_method_103_code, 4, (Option.none : Option Jvm.ClassFile.FieldType), 16, 2, true) := rfl
set_option maxRecDepth 20000 in
theorem me_82 : am_me 82 = (⟨"SweetWaits$Curve", "millionths", "(II)I"⟩, prog_4_method_5_code, 4, (Option.some Jvm.ClassFile.FieldType.int), 2, 2, false) := rfl
set_option maxRecDepth 20000 in
theorem me_83 : am_me 83 = (⟨"SweetWaits$Ratio", "start", "()V"⟩, prog_8_method_2_code, 1, (Option.none : Option Jvm.ClassFile.FieldType), 6, 0, false) := rfl
set_option maxRecDepth 20000 in
theorem me_84 : am_me 84 = (⟨"SweetWaits$Curve", "allTook", "(I)Z"⟩, prog_4_method_4_code, 2, (Option.some Jvm.ClassFile.FieldType.boolean), 2, 1, false) := rfl
set_option maxRecDepth 20000 in
theorem me_85 : am_me 85 = (⟨"SweetWaits$Ratio", "multiply", "(II)V"⟩, prog_8_method_3_code, 3, (Option.none : Option Jvm.ClassFile.FieldType), 6, 2, false) := rfl
set_option maxRecDepth 20000 in
theorem me_86 : am_me 86 = (⟨"SweetWaits$Ratio", "grow", "([III)I"⟩, prog_8_method_4_code, 8, (Option.some Jvm.ClassFile.FieldType.int), 6, 3, true) := rfl
set_option maxRecDepth 20000 in
theorem me_87 : am_me 87 = (⟨"SweetWaits$Ratio", "cut", "(II)I"⟩, prog_8_method_12_code, 7, (Option.some Jvm.ClassFile.FieldType.int), 6, 2, false) := rfl
set_option maxRecDepth 20000 in
theorem me_88 : am_me 88 = (⟨"SweetWaits$Ratio", "covers", "([III[II)Z"⟩, prog_8_method_13_code, 12, (Option.some Jvm.ClassFile.FieldType.boolean), 6, 5, true) := rfl
set_option maxRecDepth 20000 in
theorem me_89 : am_me 89 = (⟨"SweetWaits", "half", "(I)I"⟩, prog_1_method_20_code, 2, (Option.some Jvm.ClassFile.FieldType.int), 11, 1, false) := rfl
set_option maxRecDepth 20000 in
theorem me_90 : am_me 90 = (⟨"SweetWaits$Curve", "halfBehind", "(I)I"⟩, prog_4_method_6_code, 3, (Option.some Jvm.ClassFile.FieldType.int), 2, 1, false) := rfl
set_option maxRecDepth 20000 in
theorem me_91 : am_me 91 = (⟨"SweetWaits$Ratio", "isHalfOrLess", "()Z"⟩, prog_8_method_11_code, 1, (Option.some Jvm.ClassFile.FieldType.boolean), 6, 0, false) := rfl
set_option maxRecDepth 20000 in
theorem me_92 : am_me 92 = (⟨"SweetWaits", "right", "(III)I"⟩, prog_1_method_21_code, 4, (Option.some Jvm.ClassFile.FieldType.int), 11, 3, false) := rfl
set_option maxRecDepth 20000 in
theorem me_93 : am_me 93 = (⟨"SweetWaits$Curve", "isNothingAt", "(I)Z"⟩, prog_4_method_3_code, 4, (Option.some Jvm.ClassFile.FieldType.boolean), 2, 1, false) := rfl
set_option maxRecDepth 20000 in
theorem me_94 : am_me 94 = (⟨"SweetWaits", "goneOn", "(I)I"⟩, prog_1_method_22_code, 5, (Option.some Jvm.ClassFile.FieldType.int), 11, 1, false) := rfl
set_option maxRecDepth 20000 in
theorem me_95 : am_me 95 = (⟨"SweetWaits", "chance", "(III)I"⟩, prog_1_method_23_code, 5, (Option.some Jvm.ClassFile.FieldType.int), 11, 3, false) := rfl
set_option maxRecDepth 20000 in
theorem me_96 : am_me 96 = (⟨"SweetWaits$Asked", "chanceBy", "(LSweetWaits$Law;I)I"⟩, prog_2_method_4_code, 4, (Option.some Jvm.ClassFile.FieldType.int), 0, 2, false) := rfl
set_option maxRecDepth 20000 in
theorem me_97 : am_me 97 = (⟨"SweetWaits", "nearest", "(III)I"⟩, prog_1_method_68_code, 3, (Option.some Jvm.ClassFile.FieldType.int), 11, 3, true) := rfl
set_option maxRecDepth 20000 in
theorem me_98 : am_me 98 = (⟨"SweetWaits", "times", "(III)I"⟩, prog_1_method_24_code, 6, (Option.some Jvm.ClassFile.FieldType.int), 11, 3, false) := rfl
set_option maxRecDepth 20000 in
theorem me_99 : am_me 99 = (⟨"SweetWaits", "countFactors", "(LSweetWaits$Law;[I)V"⟩, prog_1_method_26_code, 10, (Option.none : Option Jvm.ClassFile.FieldType), 11, 2, false) := rfl
set_option maxRecDepth 20000 in
theorem me_100 : am_me 100 = (⟨"SweetWaits$Law", "has", "(I)Z"⟩, prog_7_method_2_code, 4, (Option.some Jvm.ClassFile.FieldType.boolean), 5, 1, false) := rfl
set_option maxRecDepth 20000 in
theorem me_101 : am_me 101 = (⟨"SweetWaits$Ratio", "timesByFactors", "()I"⟩, prog_8_method_7_code, 1, (Option.some Jvm.ClassFile.FieldType.int), 6, 0, false) := rfl
set_option maxRecDepth 20000 in
theorem me_102 : am_me 102 = (⟨"SweetWaits$Ratio", "weighFactors", "()V"⟩, prog_8_method_8_code, 3, (Option.none : Option Jvm.ClassFile.FieldType), 6, 0, false) := rfl
set_option maxRecDepth 20000 in
theorem me_103 : am_me 103 = (⟨"SweetWaits$Ratio", "raise", "()V"⟩, prog_8_method_9_code, 1, (Option.none : Option Jvm.ClassFile.FieldType), 6, 0, false) := rfl
set_option maxRecDepth 20000 in
theorem me_104 : am_me 104 = (⟨"SweetWaits$Ratio", "growByFactors", "([I[I[I)I"⟩, prog_8_method_10_code, 7, (Option.some Jvm.ClassFile.FieldType.int), 6, 3, true) := rfl
set_option maxRecDepth 20000 in
theorem me_105 : am_me 105 = (⟨"SweetWaits", "likely", "(I)I"⟩, prog_1_method_25_code, 4, (Option.some Jvm.ClassFile.FieldType.int), 11, 1, false) := rfl
set_option maxRecDepth 20000 in
theorem me_106 : am_me 106 = (⟨"SweetWaits$Ratio", "isMoreByFactors", "()Z"⟩, prog_8_method_6_code, 1, (Option.some Jvm.ClassFile.FieldType.boolean), 6, 0, false) := rfl
set_option maxRecDepth 20000 in
theorem me_107 : am_me 107 = (⟨"SweetWaits$Ratio", "putBelow", "()V"⟩, prog_8_method_5_code, 1, (Option.none : Option Jvm.ClassFile.FieldType), 6, 0, false) := rfl
set_option maxRecDepth 20000 in
theorem me_108 : am_me 108 = (⟨"SweetWaits", "waits", "(II)I"⟩, prog_1_method_27_code, 4, (Option.some Jvm.ClassFile.FieldType.int), 11, 2, false) := rfl
set_option maxRecDepth 20000 in
theorem me_109 : am_me 109 = (⟨"SweetWaits$Asked", "waitsBy", "(LSweetWaits$Law;I)I"⟩, prog_2_method_5_code, 4, (Option.some Jvm.ClassFile.FieldType.int), 0, 2, false) := rfl
set_option maxRecDepth 20000 in
theorem me_110 : am_me 110 = (⟨"SweetWaits", "parts", "(IIIII)I"⟩, prog_1_method_28_code, 9, (Option.some Jvm.ClassFile.FieldType.int), 11, 5, false) := rfl
set_option maxRecDepth 20000 in
theorem me_111 : am_me 111 = (⟨"SweetWaits", "partAll", "(LSweetWaits$Law;LSweetWaits$Law;II)I"⟩, prog_1_method_29_code, 7, (Option.some Jvm.ClassFile.FieldType.int), 11, 4, false) := rfl
set_option maxRecDepth 20000 in
theorem me_112 : am_me 112 = (⟨"SweetWaits", "partOne", "(LSweetWaits$Law;LSweetWaits$Law;III)I"⟩, prog_1_method_30_code, 7, (Option.some Jvm.ClassFile.FieldType.int), 11, 5, false) := rfl
set_option maxRecDepth 20000 in
theorem me_113 : am_me 113 = (⟨"SweetWaits", "trial", "(III)I"⟩, prog_1_method_31_code, 13, (Option.some Jvm.ClassFile.FieldType.int), 11, 3, false) := rfl
set_option maxRecDepth 20000 in
theorem me_114 : am_me 114 = (⟨"SweetWaits", "fewest", "(IIIIII)I"⟩, prog_1_method_32_code, 12, (Option.some Jvm.ClassFile.FieldType.int), 11, 6, false) := rfl
set_option maxRecDepth 20000 in
theorem me_115 : am_me 115 = (⟨"SweetWaits", "fewestFor", "(I)I"⟩, prog_1_method_33_code, 6, (Option.some Jvm.ClassFile.FieldType.int), 11, 1, false) := rfl
set_option maxRecDepth 20000 in
theorem me_116 : am_me 116 = (⟨"SweetWaits", "bounds", "(II)I"⟩, prog_1_method_34_code, 3, (Option.some Jvm.ClassFile.FieldType.int), 11, 2, false) := rfl
set_option maxRecDepth 20000 in
theorem me_117 : am_me 117 = (⟨"SweetWaits", "mean", "(LSweetWaits$Group;I)I"⟩, prog_1_method_36_code, 7, (Option.some Jvm.ClassFile.FieldType.int), 11, 2, false) := rfl
set_option maxRecDepth 20000 in
theorem me_118 : am_me 118 = (⟨"SweetWaits", "apart", "(III)I"⟩, prog_1_method_35_code, 5, (Option.some Jvm.ClassFile.FieldType.int), 11, 3, false) := rfl
set_option maxRecDepth 20000 in
theorem me_119 : am_me 119 = (⟨"SweetWaits", "meaning", "(II)I"⟩, prog_1_method_37_code, 4, (Option.some Jvm.ClassFile.FieldType.int), 11, 2, false) := rfl
set_option maxRecDepth 20000 in
theorem me_120 : am_me 120 = (⟨"SweetWaits", "pairs", "(III)I"⟩, prog_1_method_38_code, 4, (Option.some Jvm.ClassFile.FieldType.int), 11, 3, false) := rfl
set_option maxRecDepth 20000 in
theorem me_121 : am_me 121 = (⟨"SweetWaits$Sides", "take", "(LSweetWaits$Children;LSweetWaits$Group;)V"⟩, prog_10_method_3_code, 5, (Option.none : Option Jvm.ClassFile.FieldType), 8, 2, false) := rfl
set_option maxRecDepth 20000 in
theorem me_122 : am_me 122 = (⟨"SweetWaits$Sides", "start", "([I)V"⟩, prog_10_method_2_code, 2, (Option.none : Option Jvm.ClassFile.FieldType), 8, 1, false) := rfl
set_option maxRecDepth 20000 in
theorem me_123 : am_me 123 = (⟨"SweetWaits$Sides", "add", "(III)V"⟩, prog_10_method_4_code, 5, (Option.none : Option Jvm.ClassFile.FieldType), 8, 3, false) := rfl
set_option maxRecDepth 20000 in
theorem me_124 : am_me 124 = (⟨"SweetWaits$Sides", "match", "(I)I"⟩, prog_10_method_5_code, 4, (Option.some Jvm.ClassFile.FieldType.int), 8, 1, false) := rfl
set_option maxRecDepth 20000 in
theorem me_125 : am_me 125 = (⟨"SweetWaits$Sides", "alikeIn", "([IIII)Z"⟩, prog_10_method_8_code, 4, (Option.some Jvm.ClassFile.FieldType.boolean), 8, 4, true) := rfl
set_option maxRecDepth 20000 in
theorem me_126 : am_me 126 = (⟨"SweetWaits$Sides", "alikeFacts", "([III)I"⟩, prog_10_method_9_code, 8, (Option.some Jvm.ClassFile.FieldType.int), 8, 3, true) := rfl
set_option maxRecDepth 20000 in
theorem me_127 : am_me 127 = (⟨"SweetWaits$Sides", "compare", "(II)I"⟩, prog_10_method_7_code, 3, (Option.some Jvm.ClassFile.FieldType.int), 8, 2, false) := rfl
set_option maxRecDepth 20000 in
theorem me_128 : am_me 128 = (⟨"java/lang/Integer", "compare", "(II)I"⟩, prog_16_method_40_code, 2, (Option.some Jvm.ClassFile.FieldType.int), 15, 2, true) := rfl
set_option maxRecDepth 20000 in
theorem me_129 : am_me 129 = (⟨"SweetWaits$Sides", "countPair", "(I)V"⟩, prog_10_method_6_code, 2, (Option.none : Option Jvm.ClassFile.FieldType), 8, 1, false) := rfl
set_option maxRecDepth 20000 in
theorem me_130 : am_me 130 = (⟨"SweetWaits", "beside", "(II)I"⟩, prog_1_method_39_code, 5, (Option.some Jvm.ClassFile.FieldType.int), 11, 2, false) := rfl
set_option maxRecDepth 20000 in
theorem me_131 : am_me 131 = (⟨"SweetWaits", "noCauses", "()I"⟩, prog_1_method_41_code, 3, (Option.some Jvm.ClassFile.FieldType.int), 11, 0, false) := rfl
set_option maxRecDepth 20000 in
theorem me_132 : am_me 132 = (⟨"SweetWaits$Sides", "nearestSet", "()I"⟩, prog_10_method_10_code, 4, (Option.some Jvm.ClassFile.FieldType.int), 8, 0, false) := rfl
set_option maxRecDepth 20000 in
theorem me_133 : am_me 133 = (⟨"SweetWaits$Sides", "countBySets", "()V"⟩, prog_10_method_11_code, 5, (Option.none : Option Jvm.ClassFile.FieldType), 8, 0, false) := rfl
set_option maxRecDepth 20000 in
theorem me_134 : am_me 134 = (⟨"SweetWaits", "hides", "(I)I"⟩, prog_1_method_40_code, 2, (Option.some Jvm.ClassFile.FieldType.int), 11, 1, false) := rfl
set_option maxRecDepth 20000 in
theorem me_135 : am_me 135 = (⟨"SweetWaits", "looked", "(I)I"⟩, prog_1_method_42_code, 2, (Option.some Jvm.ClassFile.FieldType.int), 11, 1, false) := rfl
set_option maxRecDepth 20000 in
theorem me_136 : am_me 136 = (⟨"SweetWaits", "scoreAllWays", "()I"⟩, prog_1_method_44_code, 1, (Option.some Jvm.ClassFile.FieldType.int), 11, 0, false) := rfl
set_option maxRecDepth 20000 in
theorem me_137 : am_me 137 = (⟨"SweetWaits$Sides", "scoreWays", "()I"⟩, prog_10_method_12_code, 4, (Option.some Jvm.ClassFile.FieldType.int), 8, 0, false) := rfl
set_option maxRecDepth 20000 in
theorem me_138 : am_me 138 = (⟨"SweetWaits", "best", "()I"⟩, prog_1_method_43_code, 1, (Option.some Jvm.ClassFile.FieldType.int), 11, 0, false) := rfl
set_option maxRecDepth 20000 in
theorem me_139 : am_me 139 = (⟨"SweetWaits", "paid", "(II)I"⟩, prog_1_method_45_code, 6, (Option.some Jvm.ClassFile.FieldType.int), 11, 2, false) := rfl
set_option maxRecDepth 20000 in
theorem me_140 : am_me 140 = (⟨"SweetWaits$Draws", "start", "(I)V"⟩, prog_5_method_2_code, 2, (Option.none : Option Jvm.ClassFile.FieldType), 3, 1, false) := rfl
set_option maxRecDepth 20000 in
theorem me_141 : am_me 141 = (⟨"SweetWaits$Sides", "shuffle", "(LSweetWaits$Draws;)V"⟩, prog_10_method_13_code, 7, (Option.none : Option Jvm.ClassFile.FieldType), 8, 1, false) := rfl
set_option maxRecDepth 20000 in
theorem me_142 : am_me 142 = (⟨"SweetWaits$Draws", "draw", "(I)I"⟩, prog_5_method_3_code, 2, (Option.some Jvm.ClassFile.FieldType.int), 3, 1, false) := rfl
set_option maxRecDepth 20000 in
theorem me_143 : am_me 143 = (⟨"SweetWaits", "lasts", "(III)I"⟩, prog_1_method_46_code, 4, (Option.some Jvm.ClassFile.FieldType.int), 11, 3, false) := rfl
set_option maxRecDepth 20000 in
theorem me_144 : am_me 144 = (⟨"SweetWaits", "countLasting", "(I)I"⟩, prog_1_method_49_code, 11, (Option.some Jvm.ClassFile.FieldType.int), 11, 1, false) := rfl
set_option maxRecDepth 20000 in
theorem me_145 : am_me 145 = (⟨"SweetWaits", "lasting", "(III)I"⟩, prog_1_method_50_code, 3, (Option.some Jvm.ClassFile.FieldType.int), 11, 3, true) := rfl
set_option maxRecDepth 20000 in
theorem me_146 : am_me 146 = (⟨"SweetWaits", "outlasts", "(III)Z"⟩, prog_1_method_51_code, 3, (Option.some Jvm.ClassFile.FieldType.boolean), 11, 3, true) := rfl
set_option maxRecDepth 20000 in
theorem me_147 : am_me 147 = (⟨"SweetWaits", "trust", "(I)I"⟩, prog_1_method_47_code, 2, (Option.some Jvm.ClassFile.FieldType.int), 11, 1, false) := rfl
set_option maxRecDepth 20000 in
theorem me_148 : am_me 148 = (⟨"SweetWaits", "takeDealt", "(LSweetWaits$Group;I)V"⟩, prog_1_method_48_code, 4, (Option.none : Option Jvm.ClassFile.FieldType), 11, 2, false) := rfl
set_option maxRecDepth 20000 in
theorem me_149 : am_me 149 = (⟨"SweetWaits", "run", "(II)I"⟩, prog_1_method_52_code, 4, (Option.some Jvm.ClassFile.FieldType.int), 11, 2, false) := rfl
set_option maxRecDepth 20000 in
theorem me_150 : am_me 150 = (⟨"SweetWaits$World", "play", "(LSweetWaits$Children;LSweetWaits$Law;LSweetWaits$Asked;LSweetWaits$Draws;)I"⟩, prog_12_method_2_code, 9, (Option.some Jvm.ClassFile.FieldType.int), 10, 4, false) := rfl
set_option maxRecDepth 20000 in
theorem me_151 : am_me 151 = (⟨"SweetWaits$World", "waitOut", "(LSweetWaits$Law;ILSweetWaits$Asked;LSweetWaits$Draws;)I"⟩, prog_12_method_3_code, 5, (Option.some Jvm.ClassFile.FieldType.int), 10, 4, true) := rfl
set_option maxRecDepth 20000 in
theorem me_152 : am_me 152 = (⟨"SweetWaits$Asked", "laterBy", "(LSweetWaits$Law;)I"⟩, prog_2_method_6_code, 3, (Option.some Jvm.ClassFile.FieldType.int), 0, 1, false) := rfl
set_option maxRecDepth 20000 in
theorem me_153 : am_me 153 = (⟨"SweetWaits", "world", "(II)I"⟩, prog_1_method_53_code, 3, (Option.some Jvm.ClassFile.FieldType.int), 11, 2, false) := rfl
set_option maxRecDepth 20000 in
theorem me_154 : am_me 154 = (⟨"SweetWaits$World", "sum", "(I)I"⟩, prog_12_method_5_code, 4, (Option.some Jvm.ClassFile.FieldType.int), 10, 1, false) := rfl
set_option maxRecDepth 20000 in
theorem me_155 : am_me 155 = (⟨"SweetWaits$World", "at", "(II)I"⟩, prog_12_method_4_code, 4, (Option.some Jvm.ClassFile.FieldType.int), 10, 2, false) := rfl
set_option maxRecDepth 20000 in
theorem me_156 : am_me 156 = (⟨"SweetWaits", "drawn", "(I)I"⟩, prog_1_method_54_code, 4, (Option.some Jvm.ClassFile.FieldType.int), 11, 1, false) := rfl
set_option maxRecDepth 20000 in
theorem me_157 : am_me 157 = (⟨"SweetWaits", "like", "(III)I"⟩, prog_1_method_55_code, 8, (Option.some Jvm.ClassFile.FieldType.int), 11, 3, false) := rfl
set_option maxRecDepth 20000 in
theorem me_158 : am_me 158 = (⟨"SweetWaits", "isLikewise", "(III)Z"⟩, prog_1_method_56_code, 4, (Option.some Jvm.ClassFile.FieldType.boolean), 11, 3, false) := rfl
set_option maxRecDepth 20000 in
theorem me_159 : am_me 159 = (⟨"SweetWaits", "image", "(I)I"⟩, prog_1_method_57_code, 2, (Option.some Jvm.ClassFile.FieldType.int), 11, 1, false) := rfl
set_option maxRecDepth 20000 in
theorem me_160 : am_me 160 = (⟨"SweetWaits$Children", "copyFrom", "(LSweetWaits$Children;)V"⟩, prog_3_method_2_code, 3, (Option.none : Option Jvm.ClassFile.FieldType), 1, 1, false) := rfl
set_option maxRecDepth 20000 in
theorem me_161 : am_me 161 = (⟨"SweetWaits", "back", "(I)I"⟩, prog_1_method_58_code, 2, (Option.some Jvm.ClassFile.FieldType.int), 11, 1, false) := rfl
set_option maxRecDepth 20000 in
theorem me_162 : am_me 162 = (⟨"SweetWaits", "count", "(I)I"⟩, prog_1_method_59_code, 2, (Option.some Jvm.ClassFile.FieldType.int), 11, 1, false) := rfl
set_option maxRecDepth 20000 in
theorem me_163 : am_me 163 = (⟨"SweetWaits$Children", "countHow", "(I)I"⟩, prog_3_method_13_code, 4, (Option.some Jvm.ClassFile.FieldType.int), 1, 1, false) := rfl
set_option maxRecDepth 20000 in
theorem me_164 : am_me 164 = (⟨"SweetWaits$Children", "countFound", "()I"⟩, prog_3_method_14_code, 3, (Option.some Jvm.ClassFile.FieldType.int), 1, 0, false) := rfl
set_option maxRecDepth 20000 in
theorem me_165 : am_me 165 = (⟨"SweetWaits", "status", "()I"⟩, prog_1_method_60_code, 1, (Option.some Jvm.ClassFile.FieldType.int), 11, 0, false) := rfl
set_option maxRecDepth 20000 in
theorem me_166 : am_me 166 = (⟨"SweetWaitsModel", "<init>", "()V"⟩, prog_14_method_4_code, 1, (Option.none : Option Jvm.ClassFile.FieldType), 12, 0, false) := rfl
set_option maxRecDepth 20000 in
theorem me_167 : am_me 167 = (⟨"SweetWaitsModel", "image", "(I)I"⟩, prog_14_method_5_code, 3, (Option.some Jvm.ClassFile.FieldType.int), 12, 1, false) := rfl
set_option maxRecDepth 20000 in
theorem me_168 : am_me 168 = (⟨"SweetWaitsModel", "lies", "(III)Z"⟩, prog_14_method_1_code, 3, (Option.some Jvm.ClassFile.FieldType.boolean), 12, 3, true) := rfl
set_option maxRecDepth 20000 in
theorem me_169 : am_me 169 = (⟨"SweetWaitsModel", "refuses", "(I)I"⟩, prog_14_method_2_code, 2, (Option.some Jvm.ClassFile.FieldType.int), 12, 1, false) := rfl
set_option maxRecDepth 20000 in
theorem me_170 : am_me 170 = (⟨"SweetWaitsModel", "good", "(I)I"⟩, prog_14_method_3_code, 2, (Option.some Jvm.ClassFile.FieldType.int), 12, 1, false) := rfl
set_option maxRecDepth 20000 in
theorem me_171 : am_me 171 = (⟨"SweetWaitsModel", "back", "(I)I"⟩, prog_14_method_6_code, 3, (Option.some Jvm.ClassFile.FieldType.int), 12, 1, false) := rfl
set_option maxRecDepth 20000 in
theorem me_172 : am_me 172 = (⟨"SweetWaitsModel", "child", "(IIIIII)I"⟩, prog_14_method_15_code, 9, (Option.some Jvm.ClassFile.FieldType.int), 12, 6, false) := rfl
set_option maxRecDepth 20000 in
theorem me_173 : am_me 173 = (⟨"SweetWaitsModel", "many", "()I"⟩, prog_14_method_8_code, 1, (Option.some Jvm.ClassFile.FieldType.int), 12, 0, false) := rfl
set_option maxRecDepth 20000 in
theorem me_174 : am_me 174 = (⟨"SweetWaitsModel", "at", "(II)I"⟩, prog_14_method_12_code, 3, (Option.some Jvm.ClassFile.FieldType.int), 12, 2, false) := rfl
set_option maxRecDepth 20000 in
theorem me_175 : am_me 175 = (⟨"SweetWaitsModel", "fact", "(III)I"⟩, prog_14_method_17_code, 4, (Option.some Jvm.ClassFile.FieldType.int), 12, 3, false) := rfl
set_option maxRecDepth 20000 in
theorem me_176 : am_me 176 = (⟨"SweetWaitsModel", "mostOf", "(I)I"⟩, prog_14_method_14_code, 1, (Option.some Jvm.ClassFile.FieldType.int), 12, 1, true) := rfl
set_option maxRecDepth 20000 in
theorem me_177 : am_me 177 = (⟨"SweetWaitsModel", "isChild", "(I)Z"⟩, prog_14_method_9_code, 2, (Option.some Jvm.ClassFile.FieldType.boolean), 12, 1, false) := rfl
set_option maxRecDepth 20000 in
theorem me_178 : am_me 178 = (⟨"SweetWaitsModel", "replaces", "(II)I"⟩, prog_14_method_16_code, 4, (Option.some Jvm.ClassFile.FieldType.int), 12, 2, false) := rfl
set_option maxRecDepth 20000 in
theorem me_179 : am_me 179 = (⟨"SweetWaitsModel", "promise", "(II)I"⟩, prog_14_method_18_code, 4, (Option.some Jvm.ClassFile.FieldType.int), 12, 2, false) := rfl
set_option maxRecDepth 20000 in
theorem me_180 : am_me 180 = (⟨"SweetWaitsModel", "dealt", "(II)I"⟩, prog_14_method_19_code, 3, (Option.some Jvm.ClassFile.FieldType.int), 12, 2, false) := rfl
set_option maxRecDepth 20000 in
theorem me_181 : am_me 181 = (⟨"SweetWaitsModel", "minute", "(III)I"⟩, prog_14_method_20_code, 4, (Option.some Jvm.ClassFile.FieldType.int), 12, 3, false) := rfl
set_option maxRecDepth 20000 in
theorem me_182 : am_me 182 = (⟨"SweetWaitsModel", "later", "(III)I"⟩, prog_14_method_21_code, 4, (Option.some Jvm.ClassFile.FieldType.int), 12, 3, false) := rfl
set_option maxRecDepth 20000 in
theorem me_183 : am_me 183 = (⟨"SweetWaitsModel", "of", "(II)I"⟩, prog_14_method_29_code, 3, (Option.some Jvm.ClassFile.FieldType.int), 12, 2, false) := rfl
set_option maxRecDepth 20000 in
theorem me_184 : am_me 184 = (⟨"SweetWaitsModel", "factOf", "(II)I"⟩, prog_14_method_13_code, 3, (Option.some Jvm.ClassFile.FieldType.int), 12, 2, false) := rfl
set_option maxRecDepth 20000 in
theorem me_185 : am_me 185 = (⟨"SweetWaitsModel", "isLong", "(I)Z"⟩, prog_14_method_25_code, 2, (Option.some Jvm.ClassFile.FieldType.boolean), 12, 1, false) := rfl
set_option maxRecDepth 20000 in
theorem me_186 : am_me 186 = (⟨"SweetWaitsModel", "isTried", "(I)Z"⟩, prog_14_method_22_code, 2, (Option.some Jvm.ClassFile.FieldType.boolean), 12, 1, false) := rfl
set_option maxRecDepth 20000 in
theorem me_187 : am_me 187 = (⟨"SweetWaitsModel", "waited", "(I)I"⟩, prog_14_method_24_code, 2, (Option.some Jvm.ClassFile.FieldType.int), 12, 1, false) := rfl
set_option maxRecDepth 20000 in
theorem me_188 : am_me 188 = (⟨"SweetWaitsModel", "term", "(I)I"⟩, prog_14_method_7_code, 2, (Option.some Jvm.ClassFile.FieldType.int), 12, 1, false) := rfl
set_option maxRecDepth 20000 in
theorem me_189 : am_me 189 = (⟨"SweetWaitsModel", "isShort", "(I)Z"⟩, prog_14_method_26_code, 2, (Option.some Jvm.ClassFile.FieldType.boolean), 12, 1, false) := rfl
set_option maxRecDepth 20000 in
theorem me_190 : am_me 190 = (⟨"SweetWaitsModel", "took", "(I)Z"⟩, prog_14_method_23_code, 2, (Option.some Jvm.ClassFile.FieldType.boolean), 12, 1, false) := rfl
set_option maxRecDepth 20000 in
theorem me_191 : am_me 191 = (⟨"SweetWaitsModel", "terms", "(II)I"⟩, prog_14_method_30_code, 3, (Option.some Jvm.ClassFile.FieldType.int), 12, 2, false) := rfl
set_option maxRecDepth 20000 in
theorem me_192 : am_me 192 = (⟨"SweetWaitsModel", "row", "(I)I"⟩, prog_14_method_31_code, 7, (Option.some Jvm.ClassFile.FieldType.int), 12, 1, false) := rfl
set_option maxRecDepth 20000 in
theorem me_193 : am_me 193 = (⟨"SweetWaitsModel", "feed", "(IIIII)I"⟩, prog_14_method_32_code, 7, (Option.some Jvm.ClassFile.FieldType.int), 12, 5, false) := rfl
set_option maxRecDepth 20000 in
theorem me_194 : am_me 194 = (⟨"SweetWaitsModel", "end", "(I)I"⟩, prog_14_method_33_code, 2, (Option.some Jvm.ClassFile.FieldType.int), 12, 1, false) := rfl
set_option maxRecDepth 20000 in
theorem me_195 : am_me 195 = (⟨"SweetWaitsModel", "text", "()I"⟩, prog_14_method_52_code, 3, (Option.some Jvm.ClassFile.FieldType.int), 12, 0, false) := rfl
set_option maxRecDepth 20000 in
theorem me_196 : am_me 196 = (⟨"SweetWaitsModel", "reads", "()Z"⟩, prog_14_method_51_code, 2, (Option.some Jvm.ClassFile.FieldType.boolean), 12, 0, false) := rfl
set_option maxRecDepth 20000 in
theorem me_197 : am_me 197 = (⟨"SweetWaitsModel", "splits", "(I)V"⟩, prog_14_method_37_code, 6, (Option.none : Option Jvm.ClassFile.FieldType), 12, 1, false) := rfl
set_option maxRecDepth 20000 in
theorem me_198 : am_me 198 = (⟨"SweetWaitsModel", "isSmall", "(I)Z"⟩, prog_14_method_34_code, 1, (Option.some Jvm.ClassFile.FieldType.boolean), 12, 1, true) := rfl
set_option maxRecDepth 20000 in
theorem me_199 : am_me 199 = (⟨"SweetWaitsModel", "isDigit", "(I)Z"⟩, prog_14_method_35_code, 1, (Option.some Jvm.ClassFile.FieldType.boolean), 12, 1, true) := rfl
set_option maxRecDepth 20000 in
theorem me_200 : am_me 200 = (⟨"SweetWaitsModel", "wordOf", "(II)I"⟩, prog_14_method_36_code, 8, (Option.some Jvm.ClassFile.FieldType.int), 12, 2, false) := rfl
set_option maxRecDepth 20000 in
theorem me_201 : am_me 201 = (⟨"SweetWaitsModel", "readClause", "()V"⟩, prog_14_method_44_code, 1, (Option.none : Option Jvm.ClassFile.FieldType), 12, 0, false) := rfl
set_option maxRecDepth 20000 in
theorem me_202 : am_me 202 = (⟨"SweetWaitsModel", "takes", "(I)Z"⟩, prog_14_method_40_code, 3, (Option.some Jvm.ClassFile.FieldType.boolean), 12, 1, false) := rfl
set_option maxRecDepth 20000 in
theorem me_203 : am_me 203 = (⟨"SweetWaitsModel", "fine", "()Z"⟩, prog_14_method_38_code, 1, (Option.some Jvm.ClassFile.FieldType.boolean), 12, 0, false) := rfl
set_option maxRecDepth 20000 in
theorem me_204 : am_me 204 = (⟨"SweetWaitsModel", "readSum", "(I)V"⟩, prog_14_method_48_code, 2, (Option.none : Option Jvm.ClassFile.FieldType), 12, 1, false) := rfl
set_option maxRecDepth 20000 in
theorem me_205 : am_me 205 = (⟨"SweetWaitsModel", "readTerm", "(I)V"⟩, prog_14_method_49_code, 2, (Option.none : Option Jvm.ClassFile.FieldType), 12, 1, false) := rfl
set_option maxRecDepth 20000 in
theorem me_206 : am_me 206 = (⟨"SweetWaitsModel", "readPart", "(I)V"⟩, prog_14_method_50_code, 3, (Option.none : Option Jvm.ClassFile.FieldType), 12, 1, false) := rfl
set_option maxRecDepth 20000 in
theorem me_207 : am_me 207 = (⟨"SweetWaitsModel", "sign", "(C)I"⟩, prog_14_method_43_code, 1, (Option.some Jvm.ClassFile.FieldType.int), 12, 1, true) := rfl
set_option maxRecDepth 20000 in
theorem me_208 : am_me 208 = (⟨"SweetWaitsModel", "faults", "()V"⟩, prog_14_method_39_code, 1, (Option.none : Option Jvm.ClassFile.FieldType), 12, 0, false) := rfl
set_option maxRecDepth 20000 in
theorem me_209 : am_me 209 = (⟨"SweetWaitsModel", "must", "(I)V"⟩, prog_14_method_41_code, 2, (Option.none : Option Jvm.ClassFile.FieldType), 12, 1, false) := rfl
set_option maxRecDepth 20000 in
theorem me_210 : am_me 210 = (⟨"SweetWaitsModel", "leaf", "()V"⟩, prog_14_method_42_code, 1, (Option.none : Option Jvm.ClassFile.FieldType), 12, 0, false) := rfl
set_option maxRecDepth 20000 in
theorem me_211 : am_me 211 = (⟨"SweetWaitsModel", "readTest", "(I)V"⟩, prog_14_method_45_code, 2, (Option.none : Option Jvm.ClassFile.FieldType), 12, 1, false) := rfl
set_option maxRecDepth 20000 in
theorem me_212 : am_me 212 = (⟨"SweetWaitsModel", "readBoth", "(I)V"⟩, prog_14_method_46_code, 2, (Option.none : Option Jvm.ClassFile.FieldType), 12, 1, false) := rfl
set_option maxRecDepth 20000 in
theorem me_213 : am_me 213 = (⟨"SweetWaitsModel", "readPlain", "(I)V"⟩, prog_14_method_47_code, 4, (Option.none : Option Jvm.ClassFile.FieldType), 12, 1, false) := rfl
set_option maxRecDepth 20000 in
theorem me_214 : am_me 214 = (⟨"SweetWaitsModel", "fault", "()I"⟩, prog_14_method_53_code, 1, (Option.some Jvm.ClassFile.FieldType.int), 12, 0, false) := rfl
set_option maxRecDepth 20000 in
theorem me_215 : am_me 215 = (⟨"SweetWaitsModel", "group", "(II)I"⟩, prog_14_method_69_code, 7, (Option.some Jvm.ClassFile.FieldType.int), 12, 2, false) := rfl
set_option maxRecDepth 20000 in
theorem me_216 : am_me 216 = (⟨"SweetWaitsModel", "isGroup", "(I)Z"⟩, prog_14_method_11_code, 2, (Option.some Jvm.ClassFile.FieldType.boolean), 12, 1, false) := rfl
set_option maxRecDepth 20000 in
theorem me_217 : am_me 217 = (⟨"SweetWaitsModel", "isText", "(I)Z"⟩, prog_14_method_10_code, 2, (Option.some Jvm.ClassFile.FieldType.boolean), 12, 1, false) := rfl
set_option maxRecDepth 20000 in
theorem me_218 : am_me 218 = (⟨"SweetWaitsModel", "gathers", "(I)V"⟩, prog_14_method_68_code, 3, (Option.none : Option Jvm.ClassFile.FieldType), 12, 1, false) := rfl
set_option maxRecDepth 20000 in
theorem me_219 : am_me 219 = (⟨"SweetWaitsModel", "isIn", "(II)Z"⟩, prog_14_method_67_code, 3, (Option.some Jvm.ClassFile.FieldType.boolean), 12, 2, false) := rfl
set_option maxRecDepth 20000 in
theorem me_220 : am_me 220 = (⟨"SweetWaitsModel", "asksChild", "(II)V"⟩, prog_14_method_65_code, 4, (Option.none : Option Jvm.ClassFile.FieldType), 12, 2, false) := rfl
set_option maxRecDepth 20000 in
theorem me_221 : am_me 221 = (⟨"SweetWaitsModel", "asks", "(II)V"⟩, prog_14_method_64_code, 8, (Option.none : Option Jvm.ClassFile.FieldType), 12, 2, false) := rfl
set_option maxRecDepth 20000 in
theorem me_222 : am_me 222 = (⟨"SweetWaitsModel", "codeAt", "(I)I"⟩, prog_14_method_54_code, 2, (Option.some Jvm.ClassFile.FieldType.int), 12, 1, false) := rfl
set_option maxRecDepth 20000 in
theorem me_223 : am_me 223 = (⟨"SweetWaitsModel", "sumOf", "(Z)J"⟩, prog_14_method_57_code, 7, (Option.some Jvm.ClassFile.FieldType.long), 12, 1, false) := rfl
set_option maxRecDepth 20000 in
theorem me_224 : am_me 224 = (⟨"SweetWaitsModel", "termOf", "(Z)J"⟩, prog_14_method_58_code, 7, (Option.some Jvm.ClassFile.FieldType.long), 12, 1, false) := rfl
set_option maxRecDepth 20000 in
theorem me_225 : am_me 225 = (⟨"SweetWaitsModel", "partOf", "(Z)J"⟩, prog_14_method_59_code, 4, (Option.some Jvm.ClassFile.FieldType.long), 12, 1, false) := rfl
set_option maxRecDepth 20000 in
theorem me_226 : am_me 226 = (⟨"SweetWaitsModel", "passes", "(I)Z"⟩, prog_14_method_55_code, 3, (Option.some Jvm.ClassFile.FieldType.boolean), 12, 1, false) := rfl
set_option maxRecDepth 20000 in
theorem me_227 : am_me 227 = (⟨"SweetWaitsModel", "bounded", "(JZ)J"⟩, prog_14_method_56_code, 4, (Option.some Jvm.ClassFile.FieldType.long), 12, 2, false) := rfl
set_option maxRecDepth 20000 in
theorem me_228 : am_me 228 = (⟨"SweetWaitsModel", "testOf", "(Z)Z"⟩, prog_14_method_60_code, 4, (Option.some Jvm.ClassFile.FieldType.boolean), 12, 1, false) := rfl
set_option maxRecDepth 20000 in
theorem me_229 : am_me 229 = (⟨"SweetWaitsModel", "bothOf", "(Z)Z"⟩, prog_14_method_61_code, 4, (Option.some Jvm.ClassFile.FieldType.boolean), 12, 1, false) := rfl
set_option maxRecDepth 20000 in
theorem me_230 : am_me 230 = (⟨"SweetWaitsModel", "plainOf", "(Z)Z"⟩, prog_14_method_62_code, 3, (Option.some Jvm.ClassFile.FieldType.boolean), 12, 1, false) := rfl
set_option maxRecDepth 20000 in
theorem me_231 : am_me 231 = (⟨"SweetWaitsModel", "positiveOf", "(Z)Z"⟩, prog_14_method_63_code, 7, (Option.some Jvm.ClassFile.FieldType.boolean), 12, 1, false) := rfl
set_option maxRecDepth 20000 in
theorem me_232 : am_me 232 = (⟨"SweetWaitsModel", "isFound", "(I)Z"⟩, prog_14_method_28_code, 2, (Option.some Jvm.ClassFile.FieldType.boolean), 12, 1, false) := rfl
set_option maxRecDepth 20000 in
theorem me_233 : am_me 233 = (⟨"SweetWaitsModel", "thingOf", "(I)I"⟩, prog_14_method_27_code, 2, (Option.some Jvm.ClassFile.FieldType.int), 12, 1, false) := rfl
set_option maxRecDepth 20000 in
theorem me_234 : am_me 234 = (⟨"SweetWaitsModel", "member", "(II)I"⟩, prog_14_method_70_code, 3, (Option.some Jvm.ClassFile.FieldType.int), 12, 2, false) := rfl
set_option maxRecDepth 20000 in
theorem me_235 : am_me 235 = (⟨"SweetWaitsModel", "stays", "(II)I"⟩, prog_14_method_80_code, 3, (Option.some Jvm.ClassFile.FieldType.int), 12, 2, false) := rfl
set_option maxRecDepth 20000 in
theorem me_236 : am_me 236 = (⟨"SweetWaitsModel", "stay", "(II)V"⟩, prog_14_method_77_code, 4, (Option.none : Option Jvm.ClassFile.FieldType), 12, 2, false) := rfl
set_option maxRecDepth 20000 in
theorem me_237 : am_me 237 = (⟨"SweetWaitsModel", "be", "([JJ)V"⟩, prog_14_method_71_code, 4, (Option.none : Option Jvm.ClassFile.FieldType), 12, 2, true) := rfl
set_option maxRecDepth 20000 in
theorem me_238 : am_me 238 = (⟨"SweetWaitsModel", "stayOn", "(I)V"⟩, prog_14_method_78_code, 4, (Option.none : Option Jvm.ClassFile.FieldType), 12, 1, false) := rfl
set_option maxRecDepth 20000 in
theorem me_239 : am_me 239 = (⟨"SweetWaitsModel", "tookAt", "(I)I"⟩, prog_14_method_75_code, 4, (Option.some Jvm.ClassFile.FieldType.int), 12, 1, false) := rfl
set_option maxRecDepth 20000 in
theorem me_240 : am_me 240 = (⟨"SweetWaitsModel", "thereAt", "(I)I"⟩, prog_14_method_76_code, 4, (Option.some Jvm.ClassFile.FieldType.int), 12, 1, false) := rfl
set_option maxRecDepth 20000 in
theorem me_241 : am_me 241 = (⟨"SweetWaitsModel", "grows", "([JI)V"⟩, prog_14_method_72_code, 7, (Option.none : Option Jvm.ClassFile.FieldType), 12, 2, true) := rfl
set_option maxRecDepth 20000 in
theorem me_242 : am_me 242 = (⟨"SweetWaitsModel", "quotient", "(II)I"⟩, prog_14_method_74_code, 7, (Option.some Jvm.ClassFile.FieldType.int), 12, 2, false) := rfl
set_option maxRecDepth 20000 in
theorem me_243 : am_me 243 = (⟨"SweetWaitsModel", "order", "([J[J)I"⟩, prog_14_method_73_code, 3, (Option.some Jvm.ClassFile.FieldType.int), 12, 2, true) := rfl
set_option maxRecDepth 20000 in
theorem me_244 : am_me 244 = (⟨"SweetWaitsModel", "half", "(I)I"⟩, prog_14_method_83_code, 2, (Option.some Jvm.ClassFile.FieldType.int), 12, 1, false) := rfl
set_option maxRecDepth 20000 in
theorem me_245 : am_me 245 = (⟨"SweetWaitsModel", "halfBehind", "(I)I"⟩, prog_14_method_82_code, 3, (Option.some Jvm.ClassFile.FieldType.int), 12, 1, false) := rfl
set_option maxRecDepth 20000 in
theorem me_246 : am_me 246 = (⟨"SweetWaitsModel", "isHalf", "()Z"⟩, prog_14_method_81_code, 2, (Option.some Jvm.ClassFile.FieldType.boolean), 12, 0, false) := rfl
set_option maxRecDepth 20000 in
theorem me_247 : am_me 247 = (⟨"SweetWaitsModel", "right", "(III)I"⟩, prog_14_method_84_code, 4, (Option.some Jvm.ClassFile.FieldType.int), 12, 3, false) := rfl
set_option maxRecDepth 20000 in
theorem me_248 : am_me 248 = (⟨"SweetWaitsModel", "isGone", "()Z"⟩, prog_14_method_79_code, 3, (Option.some Jvm.ClassFile.FieldType.boolean), 12, 0, false) := rfl
set_option maxRecDepth 20000 in
theorem me_249 : am_me 249 = (⟨"SweetWaitsModel", "goneOn", "(I)I"⟩, prog_14_method_85_code, 6, (Option.some Jvm.ClassFile.FieldType.int), 12, 1, false) := rfl
set_option maxRecDepth 20000 in
theorem me_250 : am_me 250 = (⟨"SweetWaitsModel", "chance", "(III)I"⟩, prog_14_method_87_code, 4, (Option.some Jvm.ClassFile.FieldType.int), 12, 3, false) := rfl
set_option maxRecDepth 20000 in
theorem me_251 : am_me 251 = (⟨"SweetWaitsModel", "chanceOf", "(III)I"⟩, prog_14_method_86_code, 4, (Option.some Jvm.ClassFile.FieldType.int), 12, 3, false) := rfl
set_option maxRecDepth 20000 in
theorem me_252 : am_me 252 = (⟨"SweetWaitsModel", "near", "(JII)I"⟩, prog_14_method_66_code, 4, (Option.some Jvm.ClassFile.FieldType.int), 12, 3, true) := rfl
set_option maxRecDepth 20000 in
theorem me_253 : am_me 253 = (⟨"SweetWaitsModel", "times", "(III)I"⟩, prog_14_method_89_code, 4, (Option.some Jvm.ClassFile.FieldType.int), 12, 3, false) := rfl
set_option maxRecDepth 20000 in
theorem me_254 : am_me 254 = (⟨"SweetWaitsModel", "product", "([JI)V"⟩, prog_14_method_88_code, 7, (Option.none : Option Jvm.ClassFile.FieldType), 12, 2, false) := rfl
set_option maxRecDepth 20000 in
theorem me_255 : am_me 255 = (⟨"SweetWaitsModel", "likely", "(I)I"⟩, prog_14_method_90_code, 5, (Option.some Jvm.ClassFile.FieldType.int), 12, 1, false) := rfl
set_option maxRecDepth 20000 in
theorem me_256 : am_me 256 = (⟨"SweetWaitsModel", "waits", "(II)I"⟩, prog_14_method_92_code, 3, (Option.some Jvm.ClassFile.FieldType.int), 12, 2, false) := rfl
set_option maxRecDepth 20000 in
theorem me_257 : am_me 257 = (⟨"SweetWaitsModel", "waitsOf", "(IIII)I"⟩, prog_14_method_91_code, 5, (Option.some Jvm.ClassFile.FieldType.int), 12, 4, false) := rfl
set_option maxRecDepth 20000 in
theorem me_258 : am_me 258 = (⟨"SweetWaitsModel", "parts", "(IIIII)I"⟩, prog_14_method_96_code, 6, (Option.some Jvm.ClassFile.FieldType.int), 12, 5, false) := rfl
set_option maxRecDepth 20000 in
theorem me_259 : am_me 259 = (⟨"SweetWaitsModel", "areAsked", "(III)Z"⟩, prog_14_method_94_code, 4, (Option.some Jvm.ClassFile.FieldType.boolean), 12, 3, false) := rfl
set_option maxRecDepth 20000 in
theorem me_260 : am_me 260 = (⟨"SweetWaitsModel", "isTrial", "(II)Z"⟩, prog_14_method_95_code, 2, (Option.some Jvm.ClassFile.FieldType.boolean), 12, 2, true) := rfl
set_option maxRecDepth 20000 in
theorem me_261 : am_me 261 = (⟨"SweetWaitsModel", "part", "(IIII)I"⟩, prog_14_method_93_code, 9, (Option.some Jvm.ClassFile.FieldType.int), 12, 4, false) := rfl
set_option maxRecDepth 20000 in
theorem me_262 : am_me 262 = (⟨"SweetWaitsModel", "trial", "(III)I"⟩, prog_14_method_97_code, 8, (Option.some Jvm.ClassFile.FieldType.int), 12, 3, false) := rfl
set_option maxRecDepth 20000 in
theorem me_263 : am_me 263 = (⟨"SweetWaitsModel", "fewest", "(IIIIII)I"⟩, prog_14_method_98_code, 9, (Option.some Jvm.ClassFile.FieldType.int), 12, 6, false) := rfl
set_option maxRecDepth 20000 in
theorem me_264 : am_me 264 = (⟨"SweetWaitsModel", "bounds", "(II)I"⟩, prog_14_method_100_code, 3, (Option.some Jvm.ClassFile.FieldType.int), 12, 2, false) := rfl
set_option maxRecDepth 20000 in
theorem me_265 : am_me 265 = (⟨"SweetWaitsModel", "mean", "(I)I"⟩, prog_14_method_99_code, 6, (Option.some Jvm.ClassFile.FieldType.int), 12, 1, false) := rfl
set_option maxRecDepth 20000 in
theorem me_266 : am_me 266 = (⟨"SweetWaitsModel", "apart", "(III)I"⟩, prog_14_method_101_code, 6, (Option.some Jvm.ClassFile.FieldType.int), 12, 3, false) := rfl
set_option maxRecDepth 20000 in
theorem me_267 : am_me 267 = (⟨"SweetWaitsModel", "meaning", "(II)I"⟩, prog_14_method_102_code, 3, (Option.some Jvm.ClassFile.FieldType.int), 12, 2, false) := rfl
set_option maxRecDepth 20000 in
theorem me_268 : am_me 268 = (⟨"SweetWaitsModel", "pairs", "(III)I"⟩, prog_14_method_105_code, 4, (Option.some Jvm.ClassFile.FieldType.int), 12, 3, false) := rfl
set_option maxRecDepth 20000 in
theorem me_269 : am_me 269 = (⟨"SweetWaitsModel", "match", "(I)V"⟩, prog_14_method_104_code, 6, (Option.none : Option Jvm.ClassFile.FieldType), 12, 1, false) := rfl
set_option maxRecDepth 20000 in
theorem me_270 : am_me 270 = (⟨"SweetWaitsModel", "unlike", "(II)I"⟩, prog_14_method_103_code, 5, (Option.some Jvm.ClassFile.FieldType.int), 12, 2, false) := rfl
set_option maxRecDepth 20000 in
theorem me_271 : am_me 271 = (⟨"SweetWaitsModel", "beside", "(II)I"⟩, prog_14_method_108_code, 3, (Option.some Jvm.ClassFile.FieldType.int), 12, 2, false) := rfl
set_option maxRecDepth 20000 in
theorem me_272 : am_me 272 = (⟨"SweetWaitsModel", "causes", "()I"⟩, prog_14_method_106_code, 3, (Option.some Jvm.ClassFile.FieldType.int), 12, 0, false) := rfl
set_option maxRecDepth 20000 in
theorem me_273 : am_me 273 = (⟨"SweetWaitsModel", "nearest", "()I"⟩, prog_14_method_107_code, 7, (Option.some Jvm.ClassFile.FieldType.int), 12, 0, false) := rfl
set_option maxRecDepth 20000 in
theorem me_274 : am_me 274 = (⟨"SweetWaitsModel", "hides", "(I)I"⟩, prog_14_method_109_code, 4, (Option.some Jvm.ClassFile.FieldType.int), 12, 1, false) := rfl
set_option maxRecDepth 20000 in
theorem me_275 : am_me 275 = (⟨"SweetWaitsModel", "looked", "(I)I"⟩, prog_14_method_112_code, 2, (Option.some Jvm.ClassFile.FieldType.int), 12, 1, false) := rfl
set_option maxRecDepth 20000 in
theorem me_276 : am_me 276 = (⟨"SweetWaitsModel", "laysThings", "()V"⟩, prog_14_method_111_code, 2, (Option.none : Option Jvm.ClassFile.FieldType), 12, 0, false) := rfl
set_option maxRecDepth 20000 in
theorem me_277 : am_me 277 = (⟨"SweetWaitsModel", "lookedAt", "(I)I"⟩, prog_14_method_110_code, 5, (Option.some Jvm.ClassFile.FieldType.int), 12, 1, false) := rfl
set_option maxRecDepth 20000 in
theorem me_278 : am_me 278 = (⟨"SweetWaitsModel", "best", "()I"⟩, prog_14_method_114_code, 1, (Option.some Jvm.ClassFile.FieldType.int), 12, 0, false) := rfl
set_option maxRecDepth 20000 in
theorem me_279 : am_me 279 = (⟨"SweetWaitsModel", "greatestWay", "()I"⟩, prog_14_method_113_code, 3, (Option.some Jvm.ClassFile.FieldType.int), 12, 0, false) := rfl
set_option maxRecDepth 20000 in
theorem me_280 : am_me 280 = (⟨"SweetWaitsModel", "paid", "(II)I"⟩, prog_14_method_116_code, 10, (Option.some Jvm.ClassFile.FieldType.int), 12, 2, false) := rfl
set_option maxRecDepth 20000 in
theorem me_281 : am_me 281 = (⟨"SweetWaitsModel", "draws", "(I)I"⟩, prog_14_method_115_code, 2, (Option.some Jvm.ClassFile.FieldType.int), 12, 1, false) := rfl
set_option maxRecDepth 20000 in
theorem me_282 : am_me 282 = (⟨"SweetWaitsModel", "lasts", "(III)I"⟩, prog_14_method_120_code, 5, (Option.some Jvm.ClassFile.FieldType.int), 12, 3, false) := rfl
set_option maxRecDepth 20000 in
theorem me_283 : am_me 283 = (⟨"SweetWaitsModel", "lastsOf", "(I)I"⟩, prog_14_method_119_code, 5, (Option.some Jvm.ClassFile.FieldType.int), 12, 1, false) := rfl
set_option maxRecDepth 20000 in
theorem me_284 : am_me 284 = (⟨"SweetWaitsModel", "outcome", "(II)I"⟩, prog_14_method_118_code, 3, (Option.some Jvm.ClassFile.FieldType.int), 12, 2, false) := rfl
set_option maxRecDepth 20000 in
theorem me_285 : am_me 285 = (⟨"SweetWaitsModel", "isLonger", "(II)Z"⟩, prog_14_method_117_code, 3, (Option.some Jvm.ClassFile.FieldType.boolean), 12, 2, false) := rfl
set_option maxRecDepth 20000 in
theorem me_286 : am_me 286 = (⟨"SweetWaitsModel", "trust", "(I)I"⟩, prog_14_method_121_code, 3, (Option.some Jvm.ClassFile.FieldType.int), 12, 1, false) := rfl
set_option maxRecDepth 20000 in
theorem me_287 : am_me 287 = (⟨"SweetWaitsModel", "run", "(II)I"⟩, prog_14_method_122_code, 8, (Option.some Jvm.ClassFile.FieldType.int), 12, 2, false) := rfl
set_option maxRecDepth 20000 in
theorem me_288 : am_me 288 = (⟨"SweetWaitsModel", "world", "(II)I"⟩, prog_14_method_123_code, 5, (Option.some Jvm.ClassFile.FieldType.int), 12, 2, false) := rfl
set_option maxRecDepth 20000 in
theorem me_289 : am_me 289 = (⟨"SweetWaitsModel", "drawn", "(I)I"⟩, prog_14_method_125_code, 5, (Option.some Jvm.ClassFile.FieldType.int), 12, 1, false) := rfl
set_option maxRecDepth 20000 in
theorem me_290 : am_me 290 = (⟨"SweetWaitsModel", "wereAlike", "(III)Z"⟩, prog_14_method_124_code, 6, (Option.some Jvm.ClassFile.FieldType.boolean), 12, 3, false) := rfl
set_option maxRecDepth 20000 in
theorem me_291 : am_me 291 = (⟨"SweetWaitsModel", "like", "(III)I"⟩, prog_14_method_126_code, 7, (Option.some Jvm.ClassFile.FieldType.int), 12, 3, false) := rfl
set_option maxRecDepth 20000 in
theorem me_292 : am_me 292 = (⟨"SweetWaitsModel", "count", "(I)I"⟩, prog_14_method_127_code, 6, (Option.some Jvm.ClassFile.FieldType.int), 12, 1, false) := rfl
set_option maxRecDepth 20000 in
theorem me_293 : am_me 293 = (⟨"SweetWaitsModel", "status", "()I"⟩, prog_14_method_128_code, 1, (Option.some Jvm.ClassFile.FieldType.int), 12, 0, false) := rfl
