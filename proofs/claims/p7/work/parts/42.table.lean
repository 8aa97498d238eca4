abbrev M_0 : m_M := (⟨"NeverLikeLaw", "law", "([I)Z"⟩, code, 4, ret)
abbrev M_1 : m_M := (⟨"NeverLike$Green", "<init>", "(I)V"⟩, prog_2_method_1_code, 2, (Option.none : Option Jvm.ClassFile.FieldType))
abbrev M_2 : m_M := (⟨"NeverLike$Green", "costs", "(III)I"⟩, prog_2_method_2_code, 4, (Option.some Jvm.ClassFile.FieldType.int))
abbrev M_3 : m_M := (⟨"NeverLike$Green", "will", "(III)Z"⟩, prog_2_method_3_code, 4, (Option.some Jvm.ClassFile.FieldType.boolean))
abbrev M_4 : m_M := (⟨"NeverLike$Moody", "<init>", "(I)V"⟩, prog_3_method_1_code, 2, (Option.none : Option Jvm.ClassFile.FieldType))
abbrev M_5 : m_M := (⟨"NeverLike$Moody", "costs", "(III)I"⟩, prog_3_method_2_code, 4, (Option.some Jvm.ClassFile.FieldType.int))
abbrev M_6 : m_M := (⟨"NeverLike$Moody", "will", "(III)Z"⟩, prog_3_method_3_code, 4, (Option.some Jvm.ClassFile.FieldType.boolean))
abbrev M_7 : m_M := (⟨"NeverLike$Old", "<init>", "(I)V"⟩, prog_4_method_1_code, 2, (Option.none : Option Jvm.ClassFile.FieldType))
abbrev M_8 : m_M := (⟨"NeverLike$Old", "costs", "(III)I"⟩, prog_4_method_2_code, 4, (Option.some Jvm.ClassFile.FieldType.int))
abbrev M_9 : m_M := (⟨"NeverLike$Painter", "<init>", "(I)V"⟩, prog_5_method_1_code, 2, (Option.none : Option Jvm.ClassFile.FieldType))
abbrev M_10 : m_M := (⟨"NeverLike$Painter", "costs", "(III)I"⟩, prog_5_method_2_code, 4, (Option.some Jvm.ClassFile.FieldType.int))
abbrev M_11 : m_M := (⟨"NeverLike$Painter", "will", "(III)Z"⟩, prog_5_method_3_code, 4, (Option.some Jvm.ClassFile.FieldType.boolean))
abbrev M_12 : m_M := (⟨"NeverLike$Reader", "<init>", "()V"⟩, prog_6_method_1_code, 1, (Option.none : Option Jvm.ClassFile.FieldType))
abbrev M_13 : m_M := (⟨"NeverLike$Reader", "put", "(I)Z"⟩, prog_6_method_2_code, 2, (Option.some Jvm.ClassFile.FieldType.boolean))
abbrev M_14 : m_M := (⟨"NeverLike$Reader", "empty", "()V"⟩, prog_6_method_3_code, 1, (Option.none : Option Jvm.ClassFile.FieldType))
abbrev M_15 : m_M := (⟨"NeverLike$Reader", "read", "()LNeverLike$Text;"⟩, prog_6_method_4_code, 4, (Option.some (Jvm.ClassFile.FieldType.object "NeverLike$Text")))
abbrev M_16 : m_M := (⟨"NeverLike$Reader", "readClause", "(I)V"⟩, prog_6_method_5_code, 2, (Option.none : Option Jvm.ClassFile.FieldType))
abbrev M_17 : m_M := (⟨"NeverLike$Reader", "expect", "(I)V"⟩, prog_6_method_6_code, 2, (Option.none : Option Jvm.ClassFile.FieldType))
abbrev M_18 : m_M := (⟨"NeverLike$Reader", "advance", "()V"⟩, prog_6_method_7_code, 1, (Option.none : Option Jvm.ClassFile.FieldType))
abbrev M_19 : m_M := (⟨"NeverLike$Reader", "fail", "()V"⟩, prog_6_method_8_code, 1, (Option.none : Option Jvm.ClassFile.FieldType))
abbrev M_20 : m_M := (⟨"NeverLike$Reader", "write", "(I)V"⟩, prog_6_method_9_code, 2, (Option.none : Option Jvm.ClassFile.FieldType))
abbrev M_21 : m_M := (⟨"NeverLike$Reader", "readLevel", "(II)V"⟩, prog_6_method_10_code, 5, (Option.none : Option Jvm.ClassFile.FieldType))
abbrev M_22 : m_M := (⟨"NeverLike$Reader", "joins", "(I)Z"⟩, prog_6_method_11_code, 2, (Option.some Jvm.ClassFile.FieldType.boolean))
abbrev M_23 : m_M := (⟨"NeverLike$Reader", "readNot", "(I)V"⟩, prog_6_method_12_code, 3, (Option.none : Option Jvm.ClassFile.FieldType))
abbrev M_24 : m_M := (⟨"NeverLike$Reader", "readOne", "(I)V"⟩, prog_6_method_13_code, 2, (Option.none : Option Jvm.ClassFile.FieldType))
abbrev M_25 : m_M := (⟨"NeverLike$Reader", "opens", "(I)Z"⟩, prog_6_method_14_code, 2, (Option.some Jvm.ClassFile.FieldType.boolean))
abbrev M_26 : m_M := (⟨"NeverLike$Reader", "splitTape", "()V"⟩, prog_6_method_15_code, 4, (Option.none : Option Jvm.ClassFile.FieldType))
abbrev M_27 : m_M := (⟨"NeverLike$Reader", "endOf", "(I)I"⟩, prog_6_method_16_code, 3, (Option.some Jvm.ClassFile.FieldType.int))
abbrev M_28 : m_M := (⟨"NeverLike$Reader", "isLetter", "(I)Z"⟩, prog_6_method_17_code, 1, (Option.some Jvm.ClassFile.FieldType.boolean))
abbrev M_29 : m_M := (⟨"NeverLike$Reader", "isDigit", "(I)Z"⟩, prog_6_method_18_code, 1, (Option.some Jvm.ClassFile.FieldType.boolean))
abbrev M_30 : m_M := (⟨"NeverLike$Reader", "tokenOf", "(II)I"⟩, prog_6_method_19_code, 4, (Option.some Jvm.ClassFile.FieldType.int))
abbrev M_31 : m_M := (⟨"NeverLike$Reader", "numberOf", "(II)I"⟩, prog_6_method_20_code, 5, (Option.some Jvm.ClassFile.FieldType.int))
abbrev M_32 : m_M := (⟨"NeverLike$Reader", "keyOf", "(II)I"⟩, prog_6_method_21_code, 3, (Option.some Jvm.ClassFile.FieldType.int))
abbrev M_33 : m_M := (⟨"NeverLike$Reader", "nameOf", "(II)I"⟩, prog_6_method_22_code, 3, (Option.some Jvm.ClassFile.FieldType.int))
abbrev M_34 : m_M := (⟨"NeverLike$Reader", "isWord", "(Ljava/lang/String;II)Z"⟩, prog_6_method_23_code, 5, (Option.some Jvm.ClassFile.FieldType.boolean))
abbrev M_35 : m_M := (⟨"NeverLike$Reader", "signOf", "(I)I"⟩, prog_6_method_24_code, 1, (Option.some Jvm.ClassFile.FieldType.int))
abbrev M_36 : m_M := (⟨"NeverLike$Search", "<init>", "(LNeverLike$Town;)V"⟩, prog_7_method_1_code, 2, (Option.none : Option Jvm.ClassFile.FieldType))
abbrev M_37 : m_M := (⟨"NeverLike$Search", "forget", "()V"⟩, prog_7_method_2_code, 1, (Option.none : Option Jvm.ClassFile.FieldType))
abbrev M_38 : m_M := (⟨"NeverLike$Search", "setPrice", "(IIII)V"⟩, prog_7_method_3_code, 5, (Option.none : Option Jvm.ClassFile.FieldType))
abbrev M_39 : m_M := (⟨"NeverLike$Search", "placeOf", "(III)I"⟩, prog_7_method_4_code, 3, (Option.some Jvm.ClassFile.FieldType.int))
abbrev M_40 : m_M := (⟨"NeverLike$Search", "reach", "(I)V"⟩, prog_7_method_5_code, 2, (Option.none : Option Jvm.ClassFile.FieldType))
abbrev M_41 : m_M := (⟨"NeverLike$Search", "clear", "()V"⟩, prog_7_method_6_code, 2, (Option.none : Option Jvm.ClassFile.FieldType))
abbrev M_42 : m_M := (⟨"NeverLike$Search", "spread", "(II)V"⟩, prog_7_method_7_code, 4, (Option.none : Option Jvm.ClassFile.FieldType))
abbrev M_43 : m_M := (⟨"NeverLike$Search", "meet", "(II)V"⟩, prog_7_method_8_code, 3, (Option.none : Option Jvm.ClassFile.FieldType))
abbrev M_44 : m_M := (⟨"NeverLike$Search", "widen", "(II)V"⟩, prog_7_method_9_code, 10, (Option.none : Option Jvm.ClassFile.FieldType))
abbrev M_45 : m_M := (⟨"NeverLike$Search", "lookAt", "(I)V"⟩, prog_7_method_10_code, 4, (Option.none : Option Jvm.ClassFile.FieldType))
abbrev M_46 : m_M := (⟨"NeverLike$Search", "cheapen", "(II)V"⟩, prog_7_method_11_code, 3, (Option.none : Option Jvm.ClassFile.FieldType))
abbrev M_47 : m_M := (⟨"NeverLike$Search", "findCosts", "()V"⟩, prog_7_method_12_code, 3, (Option.none : Option Jvm.ClassFile.FieldType))
abbrev M_48 : m_M := (⟨"NeverLike$Search", "costRound", "()Z"⟩, prog_7_method_13_code, 3, (Option.some Jvm.ClassFile.FieldType.boolean))
abbrev M_49 : m_M := (⟨"NeverLike$Search", "parts", "()I"⟩, prog_7_method_14_code, 3, (Option.some Jvm.ClassFile.FieldType.int))
abbrev M_50 : m_M := (⟨"NeverLike$Search", "farthest", "()I"⟩, prog_7_method_15_code, 1, (Option.some Jvm.ClassFile.FieldType.int))
abbrev M_51 : m_M := (⟨"NeverLike$Search", "frozen", "()I"⟩, prog_7_method_16_code, 4, (Option.some Jvm.ClassFile.FieldType.int))
abbrev M_52 : m_M := (⟨"NeverLike$Search", "stepsTo", "(I)I"⟩, prog_7_method_17_code, 2, (Option.some Jvm.ClassFile.FieldType.int))
abbrev M_53 : m_M := (⟨"NeverLike$Search", "rowStep", "(II)I"⟩, prog_7_method_18_code, 6, (Option.some Jvm.ClassFile.FieldType.int))
abbrev M_54 : m_M := (⟨"NeverLike$Search", "stepBetween", "(II)I"⟩, prog_7_method_19_code, 6, (Option.some Jvm.ClassFile.FieldType.int))
abbrev M_55 : m_M := (⟨"NeverLike$Search", "costTo", "(I)I"⟩, prog_7_method_20_code, 2, (Option.some Jvm.ClassFile.FieldType.int))
abbrev M_56 : m_M := (⟨"NeverLike$Search", "changedIn", "(I)I"⟩, prog_7_method_21_code, 4, (Option.some Jvm.ClassFile.FieldType.int))
abbrev M_57 : m_M := (⟨"NeverLike$Search", "wished", "(I)I"⟩, prog_7_method_22_code, 4, (Option.some Jvm.ClassFile.FieldType.int))
abbrev M_58 : m_M := (⟨"NeverLike$Search", "mostWished", "()I"⟩, prog_7_method_23_code, 5, (Option.some Jvm.ClassFile.FieldType.int))
abbrev M_59 : m_M := (⟨"NeverLike$Search", "worthOf", "(I[I)I"⟩, prog_7_method_24_code, 5, (Option.some Jvm.ClassFile.FieldType.int))
abbrev M_60 : m_M := (⟨"NeverLike$Search", "mostWorth", "([I)I"⟩, prog_7_method_25_code, 6, (Option.some Jvm.ClassFile.FieldType.int))
abbrev M_61 : m_M := (⟨"NeverLike$Sheet", "<init>", "(II)V"⟩, prog_8_method_1_code, 3, (Option.none : Option Jvm.ClassFile.FieldType))
abbrev M_62 : m_M := (⟨"NeverLike$Sheet", "has", "(I)Z"⟩, prog_8_method_2_code, 2, (Option.some Jvm.ClassFile.FieldType.boolean))
abbrev M_63 : m_M := (⟨"NeverLike$Sheet", "hasRow", "(II)Z"⟩, prog_8_method_3_code, 3, (Option.some Jvm.ClassFile.FieldType.boolean))
abbrev M_64 : m_M := (⟨"NeverLike$Sheet", "put", "(II)V"⟩, prog_8_method_4_code, 3, (Option.none : Option Jvm.ClassFile.FieldType))
abbrev M_65 : m_M := (⟨"NeverLike$Shy", "<init>", "(I)V"⟩, prog_9_method_1_code, 2, (Option.none : Option Jvm.ClassFile.FieldType))
abbrev M_66 : m_M := (⟨"NeverLike$Shy", "costs", "(III)I"⟩, prog_9_method_2_code, 4, (Option.some Jvm.ClassFile.FieldType.int))
abbrev M_67 : m_M := (⟨"NeverLike$Shy", "will", "(III)Z"⟩, prog_9_method_3_code, 4, (Option.some Jvm.ClassFile.FieldType.boolean))
abbrev M_68 : m_M := (⟨"NeverLike$Steep", "<init>", "(I)V"⟩, prog_10_method_1_code, 2, (Option.none : Option Jvm.ClassFile.FieldType))
abbrev M_69 : m_M := (⟨"NeverLike$Steep", "costs", "(III)I"⟩, prog_10_method_2_code, 4, (Option.some Jvm.ClassFile.FieldType.int))
abbrev M_70 : m_M := (⟨"NeverLike$Text", "<init>", "([III)V"⟩, prog_11_method_1_code, 4, (Option.none : Option Jvm.ClassFile.FieldType))
abbrev M_71 : m_M := (⟨"NeverLike$Text", "may", "([I)I"⟩, prog_11_method_2_code, 2, (Option.some Jvm.ClassFile.FieldType.int))
abbrev M_72 : m_M := (⟨"NeverLike$Text", "fee", "([I)I"⟩, prog_11_method_3_code, 2, (Option.some Jvm.ClassFile.FieldType.int))
abbrev M_73 : m_M := (⟨"NeverLike$Text", "joy", "([I)I"⟩, prog_11_method_4_code, 2, (Option.some Jvm.ClassFile.FieldType.int))
abbrev M_74 : m_M := (⟨"NeverLike$Text", "value", "(II[I)I"⟩, prog_11_method_5_code, 7, (Option.some Jvm.ClassFile.FieldType.int))
abbrev M_75 : m_M := (⟨"NeverLike$Text", "joined", "(III)I"⟩, prog_11_method_6_code, 3, (Option.some Jvm.ClassFile.FieldType.int))
abbrev M_76 : m_M := (⟨"NeverLike$Town", "<init>", "()V"⟩, prog_12_method_1_code, 1, (Option.none : Option Jvm.ClassFile.FieldType))
abbrev M_77 : m_M := (⟨"NeverLike$Town", "lay", "(II)V"⟩, prog_12_method_2_code, 4, (Option.none : Option Jvm.ClassFile.FieldType))
abbrev M_78 : m_M := (⟨"NeverLike$Town", "takeFrom", "(LNeverLike$Town;)V"⟩, prog_12_method_3_code, 2, (Option.none : Option Jvm.ClassFile.FieldType))
abbrev M_79 : m_M := (⟨"NeverLike$Town", "link", "(IIZ)V"⟩, prog_12_method_4_code, 4, (Option.none : Option Jvm.ClassFile.FieldType))
abbrev M_80 : m_M := (⟨"NeverLike$Town", "isHouse", "(I)Z"⟩, prog_12_method_5_code, 2, (Option.some Jvm.ClassFile.FieldType.boolean))
abbrev M_81 : m_M := (⟨"NeverLike$Town", "areTwo", "(II)Z"⟩, prog_12_method_6_code, 3, (Option.some Jvm.ClassFile.FieldType.boolean))
abbrev M_82 : m_M := (⟨"NeverLike$Town", "isColour", "(I)Z"⟩, prog_12_method_7_code, 2, (Option.some Jvm.ClassFile.FieldType.boolean))
abbrev M_83 : m_M := (⟨"NeverLike$Town", "isTown", "(I)Z"⟩, prog_12_method_8_code, 2, (Option.some Jvm.ClassFile.FieldType.boolean))
abbrev M_84 : m_M := (⟨"NeverLike$Town", "keepBit", "(I)I"⟩, prog_12_method_9_code, 2, (Option.some Jvm.ClassFile.FieldType.int))
abbrev M_85 : m_M := (⟨"NeverLike$Town", "coloursOf", "(I[I)I"⟩, prog_12_method_10_code, 5, (Option.some Jvm.ClassFile.FieldType.int))
abbrev M_86 : m_M := (⟨"NeverLike$Town", "isLawful", "([I)Z"⟩, prog_12_method_11_code, 3, (Option.some Jvm.ClassFile.FieldType.boolean))
abbrev M_87 : m_M := (⟨"NeverLike$Town", "numberOf", "([I)I"⟩, prog_12_method_12_code, 4, (Option.some Jvm.ClassFile.FieldType.int))
abbrev M_88 : m_M := (⟨"NeverLike", "<init>", "()V"⟩, prog_1_method_1_code, 2, (Option.none : Option Jvm.ClassFile.FieldType))
abbrev M_89 : m_M := (⟨"NeverLike", "build", "(II)I"⟩, prog_1_method_2_code, 5, (Option.some Jvm.ClassFile.FieldType.int))
abbrev M_90 : m_M := (⟨"NeverLike", "touch", "(III)I"⟩, prog_1_method_3_code, 5, (Option.some Jvm.ClassFile.FieldType.int))
abbrev M_91 : m_M := (⟨"NeverLike", "set", "(III)I"⟩, prog_1_method_4_code, 5, (Option.some Jvm.ClassFile.FieldType.int))
abbrev M_92 : m_M := (⟨"NeverLike", "told", "(II)I"⟩, prog_1_method_5_code, 3, (Option.some Jvm.ClassFile.FieldType.int))
abbrev M_93 : m_M := (⟨"NeverLike", "painter", "(II)I"⟩, prog_1_method_6_code, 3, (Option.some Jvm.ClassFile.FieldType.int))
abbrev M_94 : m_M := (⟨"NeverLike", "asks", "(III)I"⟩, prog_1_method_7_code, 8, (Option.some Jvm.ClassFile.FieldType.int))
abbrev M_95 : m_M := (⟨"NeverLike", "feed", "(I)I"⟩, prog_1_method_8_code, 2, (Option.some Jvm.ClassFile.FieldType.int))
abbrev M_96 : m_M := (⟨"NeverLike", "text", "()I"⟩, prog_1_method_9_code, 2, (Option.some Jvm.ClassFile.FieldType.int))
abbrev M_97 : m_M := (⟨"NeverLike", "force", "(I)I"⟩, prog_1_method_10_code, 3, (Option.some Jvm.ClassFile.FieldType.int))
abbrev M_98 : m_M := (⟨"NeverLike", "lawful", "()I"⟩, prog_1_method_11_code, 1, (Option.some Jvm.ClassFile.FieldType.int))
abbrev M_99 : m_M := (⟨"NeverLike", "step", "(II)I"⟩, prog_1_method_12_code, 3, (Option.some Jvm.ClassFile.FieldType.int))
abbrev M_100 : m_M := (⟨"NeverLike", "paint", "(II)I"⟩, prog_1_method_13_code, 4, (Option.some Jvm.ClassFile.FieldType.int))
abbrev M_101 : m_M := (⟨"NeverLike", "come", "(I)I"⟩, prog_1_method_14_code, 2, (Option.some Jvm.ClassFile.FieldType.int))
abbrev M_102 : m_M := (⟨"NeverLike", "shortest", "(I)I"⟩, prog_1_method_15_code, 2, (Option.some Jvm.ClassFile.FieldType.int))
abbrev M_103 : m_M := (⟨"NeverLike", "first", "(II)I"⟩, prog_1_method_16_code, 3, (Option.some Jvm.ClassFile.FieldType.int))
abbrev M_104 : m_M := (⟨"NeverLike", "cheapest", "(I)I"⟩, prog_1_method_17_code, 2, (Option.some Jvm.ClassFile.FieldType.int))
abbrev M_105 : m_M := (⟨"NeverLike", "wishes", "(I)I"⟩, prog_1_method_18_code, 3, (Option.some Jvm.ClassFile.FieldType.int))
abbrev M_106 : m_M := (⟨"NeverLike", "night", "(II)I"⟩, prog_1_method_19_code, 3, (Option.some Jvm.ClassFile.FieldType.int))
abbrev M_107 : m_M := (⟨"NeverLike", "gap", "(I)I"⟩, prog_1_method_20_code, 2, (Option.some Jvm.ClassFile.FieldType.int))
abbrev M_108 : m_M := (⟨"NeverLike", "turned", "()I"⟩, prog_1_method_21_code, 2, (Option.some Jvm.ClassFile.FieldType.int))
abbrev M_109 : m_M := (⟨"NeverLike", "touched", "(I)I"⟩, prog_1_method_22_code, 2, (Option.some Jvm.ClassFile.FieldType.int))
abbrev M_110 : m_M := (⟨"NeverLike", "worth", "(I)J"⟩, prog_1_method_23_code, 3, (Option.some Jvm.ClassFile.FieldType.long))
abbrev M_111 : m_M := (⟨"NeverLike", "judge", "(II)I"⟩, prog_1_method_24_code, 7, (Option.some Jvm.ClassFile.FieldType.int))
abbrev M_112 : m_M := (⟨"NeverLike", "drawn", "(II)I"⟩, prog_1_method_25_code, 5, (Option.some Jvm.ClassFile.FieldType.int))
abbrev M_113 : m_M := (⟨"NeverLike", "image", "()I"⟩, prog_1_method_26_code, 1, (Option.some Jvm.ClassFile.FieldType.int))
abbrev M_114 : m_M := (⟨"NeverLike", "back", "()I"⟩, prog_1_method_27_code, 1, (Option.some Jvm.ClassFile.FieldType.int))
abbrev M_115 : m_M := (⟨"NeverLike", "count", "(I)I"⟩, prog_1_method_28_code, 2, (Option.some Jvm.ClassFile.FieldType.int))
abbrev M_116 : m_M := (⟨"NeverLike", "sheet", "(III)I"⟩, prog_1_method_29_code, 4, (Option.some Jvm.ClassFile.FieldType.int))
abbrev M_117 : m_M := (⟨"NeverLike", "cell", "(III)I"⟩, prog_1_method_30_code, 5, (Option.some Jvm.ClassFile.FieldType.int))
abbrev M_118 : m_M := (⟨"NeverLike", "copy", "(IIIII)I"⟩, prog_1_method_31_code, 8, (Option.some Jvm.ClassFile.FieldType.int))
abbrev M_119 : m_M := (⟨"NeverLike", "paints", "(IIII)I"⟩, prog_1_method_32_code, 9, (Option.some Jvm.ClassFile.FieldType.int))
abbrev M_120 : m_M := (⟨"NeverLike", "taken", "(II)I"⟩, prog_1_method_33_code, 4, (Option.some Jvm.ClassFile.FieldType.int))
abbrev M_121 : m_M := (⟨"NeverLike", "isWithin", "(II)Z"⟩, prog_1_method_34_code, 2, (Option.some Jvm.ClassFile.FieldType.boolean))
abbrev M_122 : m_M := (⟨"NeverLike", "isFlag", "(I)Z"⟩, prog_1_method_35_code, 1, (Option.some Jvm.ClassFile.FieldType.boolean))
abbrev M_123 : m_M := (⟨"NeverLike", "isSheet", "(I)Z"⟩, prog_1_method_36_code, 1, (Option.some Jvm.ClassFile.FieldType.boolean))
abbrev M_124 : m_M := (⟨"NeverLike", "townsOf", "(II)I"⟩, prog_1_method_37_code, 4, (Option.some Jvm.ClassFile.FieldType.int))
abbrev M_125 : m_M := (⟨"NeverLike", "isSettable", "(III)Z"⟩, prog_1_method_38_code, 4, (Option.some Jvm.ClassFile.FieldType.boolean))
abbrev M_126 : m_M := (⟨"NeverLike", "painterOf", "(I)LNeverLike$Painter;"⟩, prog_1_method_39_code, 2, (Option.some (Jvm.ClassFile.FieldType.object "NeverLike$Painter")))
abbrev M_127 : m_M := (⟨"NeverLike", "newPainter", "(II)LNeverLike$Painter;"⟩, prog_1_method_40_code, 2, (Option.some (Jvm.ClassFile.FieldType.object "NeverLike$Painter")))
abbrev M_128 : m_M := (⟨"NeverLike", "isOfKind", "(LNeverLike$Painter;I)Z"⟩, prog_1_method_41_code, 2, (Option.some Jvm.ClassFile.FieldType.boolean))
abbrev M_129 : m_M := (⟨"NeverLike", "costIn", "([III)I"⟩, prog_1_method_42_code, 4, (Option.some Jvm.ClassFile.FieldType.int))
abbrev M_130 : m_M := (⟨"NeverLike", "tryStep", "(I)I"⟩, prog_1_method_43_code, 4, (Option.some Jvm.ClassFile.FieldType.int))
abbrev M_131 : m_M := (⟨"NeverLike", "price", "(III)I"⟩, prog_1_method_44_code, 6, (Option.some Jvm.ClassFile.FieldType.int))
abbrev M_132 : m_M := (⟨"NeverLike", "leastAsked", "(III)I"⟩, prog_1_method_45_code, 8, (Option.some Jvm.ClassFile.FieldType.int))
abbrev M_133 : m_M := (⟨"NeverLike", "joyOf", "(I)I"⟩, prog_1_method_46_code, 3, (Option.some Jvm.ClassFile.FieldType.int))
abbrev M_134 : m_M := (⟨"NeverLike", "ruleNow", "()LNeverLike$Text;"⟩, prog_1_method_47_code, 1, (Option.some (Jvm.ClassFile.FieldType.object "NeverLike$Text")))
abbrev M_135 : m_M := (⟨"NeverLike", "tellNames", "(III)V"⟩, prog_1_method_48_code, 4, (Option.none : Option Jvm.ClassFile.FieldType))
abbrev M_136 : m_M := (⟨"NeverLike", "bounded", "(II)I"⟩, prog_1_method_49_code, 2, (Option.some Jvm.ClassFile.FieldType.int))
abbrev M_137 : m_M := (⟨"NeverLike", "tellPrices", "()V"⟩, prog_1_method_50_code, 4, (Option.none : Option Jvm.ClassFile.FieldType))
abbrev M_138 : m_M := (⟨"NeverLike", "reachFromNow", "()V"⟩, prog_1_method_51_code, 1, (Option.none : Option Jvm.ClassFile.FieldType))
abbrev M_139 : m_M := (⟨"NeverLikeModel", "<init>", "()V"⟩, prog_14_method_1_code, 2, (Option.none : Option Jvm.ClassFile.FieldType))
abbrev M_140 : m_M := (⟨"NeverLikeModel", "isIn", "(III)Z"⟩, prog_14_method_2_code, 3, (Option.some Jvm.ClassFile.FieldType.boolean))
abbrev M_141 : m_M := (⟨"NeverLikeModel", "begins", "(II)V"⟩, prog_14_method_3_code, 4, (Option.none : Option Jvm.ClassFile.FieldType))
abbrev M_142 : m_M := (⟨"NeverLikeModel", "isHouse", "(I)Z"⟩, prog_14_method_4_code, 2, (Option.some Jvm.ClassFile.FieldType.boolean))
abbrev M_143 : m_M := (⟨"NeverLikeModel", "isColour", "(I)Z"⟩, prog_14_method_5_code, 2, (Option.some Jvm.ClassFile.FieldType.boolean))
abbrev M_144 : m_M := (⟨"NeverLikeModel", "towns", "(II)I"⟩, prog_14_method_6_code, 4, (Option.some Jvm.ClassFile.FieldType.int))
abbrev M_145 : m_M := (⟨"NeverLikeModel", "townNow", "()I"⟩, prog_14_method_7_code, 3, (Option.some Jvm.ClassFile.FieldType.int))
abbrev M_146 : m_M := (⟨"NeverLikeModel", "isTown", "(I)Z"⟩, prog_14_method_8_code, 2, (Option.some Jvm.ClassFile.FieldType.boolean))
abbrev M_147 : m_M := (⟨"NeverLikeModel", "build", "(II)I"⟩, prog_14_method_9_code, 4, (Option.some Jvm.ClassFile.FieldType.int))
abbrev M_148 : m_M := (⟨"NeverLikeModel", "areTwo", "(II)Z"⟩, prog_14_method_10_code, 3, (Option.some Jvm.ClassFile.FieldType.boolean))
abbrev M_149 : m_M := (⟨"NeverLikeModel", "touch", "(III)I"⟩, prog_14_method_11_code, 5, (Option.some Jvm.ClassFile.FieldType.int))
abbrev M_150 : m_M := (⟨"NeverLikeModel", "set", "(III)I"⟩, prog_14_method_12_code, 5, (Option.some Jvm.ClassFile.FieldType.int))
abbrev M_151 : m_M := (⟨"NeverLikeModel", "told", "(II)I"⟩, prog_14_method_13_code, 3, (Option.some Jvm.ClassFile.FieldType.int))
abbrev M_152 : m_M := (⟨"NeverLikeModel", "painter", "(II)I"⟩, prog_14_method_14_code, 3, (Option.some Jvm.ClassFile.FieldType.int))
abbrev M_153 : m_M := (⟨"NeverLikeModel", "costsOf", "(IIII)I"⟩, prog_14_method_15_code, 7, (Option.some Jvm.ClassFile.FieldType.int))
abbrev M_154 : m_M := (⟨"NeverLikeModel", "isWilling", "(IIII)Z"⟩, prog_14_method_16_code, 6, (Option.some Jvm.ClassFile.FieldType.boolean))
abbrev M_155 : m_M := (⟨"NeverLikeModel", "asks", "(III)I"⟩, prog_14_method_17_code, 7, (Option.some Jvm.ClassFile.FieldType.int))
abbrev M_156 : m_M := (⟨"NeverLikeModel", "isUnder", "(II)Z"⟩, prog_14_method_18_code, 2, (Option.some Jvm.ClassFile.FieldType.boolean))
abbrev M_157 : m_M := (⟨"NeverLikeModel", "taken", "(II)I"⟩, prog_14_method_19_code, 3, (Option.some Jvm.ClassFile.FieldType.int))
abbrev M_158 : m_M := (⟨"NeverLikeModel", "writes", "(I)V"⟩, prog_14_method_20_code, 2, (Option.none : Option Jvm.ClassFile.FieldType))
abbrev M_159 : m_M := (⟨"NeverLikeModel", "firstRule", "()V"⟩, prog_14_method_21_code, 1, (Option.none : Option Jvm.ClassFile.FieldType))
abbrev M_160 : m_M := (⟨"NeverLikeModel", "feed", "(I)I"⟩, prog_14_method_22_code, 2, (Option.some Jvm.ClassFile.FieldType.int))
abbrev M_161 : m_M := (⟨"NeverLikeModel", "isAt", "(II)Z"⟩, prog_14_method_23_code, 3, (Option.some Jvm.ClassFile.FieldType.boolean))
abbrev M_162 : m_M := (⟨"NeverLikeModel", "isSign", "(I)Z"⟩, prog_14_method_24_code, 1, (Option.some Jvm.ClassFile.FieldType.boolean))
abbrev M_163 : m_M := (⟨"NeverLikeModel", "isWord", "([I)Z"⟩, prog_14_method_25_code, 3, (Option.some Jvm.ClassFile.FieldType.boolean))
abbrev M_164 : m_M := (⟨"NeverLikeModel", "reads", "()V"⟩, prog_14_method_26_code, 2, (Option.none : Option Jvm.ClassFile.FieldType))
abbrev M_165 : m_M := (⟨"NeverLikeModel", "top", "()I"⟩, prog_14_method_27_code, 1, (Option.some Jvm.ClassFile.FieldType.int))
abbrev M_166 : m_M := (⟨"NeverLikeModel", "holds", "(I)V"⟩, prog_14_method_28_code, 2, (Option.none : Option Jvm.ClassFile.FieldType))
abbrev M_167 : m_M := (⟨"NeverLikeModel", "lets", "()V"⟩, prog_14_method_29_code, 2, (Option.none : Option Jvm.ClassFile.FieldType))
abbrev M_168 : m_M := (⟨"NeverLikeModel", "letsFrom", "(I)V"⟩, prog_14_method_30_code, 2, (Option.none : Option Jvm.ClassFile.FieldType))
abbrev M_169 : m_M := (⟨"NeverLikeModel", "heightOf", "(I)I"⟩, prog_14_method_31_code, 1, (Option.some Jvm.ClassFile.FieldType.int))
abbrev M_170 : m_M := (⟨"NeverLikeModel", "mayNot", "()Z"⟩, prog_14_method_32_code, 2, (Option.some Jvm.ClassFile.FieldType.boolean))
abbrev M_171 : m_M := (⟨"NeverLikeModel", "ahead", "()I"⟩, prog_14_method_33_code, 2, (Option.some Jvm.ClassFile.FieldType.int))
abbrev M_172 : m_M := (⟨"NeverLikeModel", "deedOf", "(I)I"⟩, prog_14_method_34_code, 1, (Option.some Jvm.ClassFile.FieldType.int))
abbrev M_173 : m_M := (⟨"NeverLikeModel", "behind", "()I"⟩, prog_14_method_35_code, 2, (Option.some Jvm.ClassFile.FieldType.int))
abbrev M_174 : m_M := (⟨"NeverLikeModel", "readsRow", "()Z"⟩, prog_14_method_36_code, 4, (Option.some Jvm.ClassFile.FieldType.boolean))
abbrev M_175 : m_M := (⟨"NeverLikeModel", "text", "()I"⟩, prog_14_method_37_code, 3, (Option.some Jvm.ClassFile.FieldType.int))
abbrev M_176 : m_M := (⟨"NeverLikeModel", "force", "(I)I"⟩, prog_14_method_38_code, 3, (Option.some Jvm.ClassFile.FieldType.int))
abbrev M_177 : m_M := (⟨"NeverLikeModel", "bits", "(I)I"⟩, prog_14_method_39_code, 3, (Option.some Jvm.ClassFile.FieldType.int))
abbrev M_178 : m_M := (⟨"NeverLikeModel", "named", "(IIII)I"⟩, prog_14_method_40_code, 5, (Option.some Jvm.ClassFile.FieldType.int))
abbrev M_179 : m_M := (⟨"NeverLikeModel", "done", "(III)I"⟩, prog_14_method_41_code, 3, (Option.some Jvm.ClassFile.FieldType.int))
abbrev M_180 : m_M := (⟨"NeverLikeModel", "says", "(IIII)I"⟩, prog_14_method_42_code, 9, (Option.some Jvm.ClassFile.FieldType.int))
abbrev M_181 : m_M := (⟨"NeverLikeModel", "bounded", "(II)I"⟩, prog_14_method_43_code, 2, (Option.some Jvm.ClassFile.FieldType.int))
abbrev M_182 : m_M := (⟨"NeverLikeModel", "stepCost", "(III)I"⟩, prog_14_method_44_code, 7, (Option.some Jvm.ClassFile.FieldType.int))
abbrev M_183 : m_M := (⟨"NeverLikeModel", "findSteps", "()V"⟩, prog_14_method_45_code, 4, (Option.none : Option Jvm.ClassFile.FieldType))
abbrev M_184 : m_M := (⟨"NeverLikeModel", "findUnits", "()V"⟩, prog_14_method_46_code, 2, (Option.none : Option Jvm.ClassFile.FieldType))
abbrev M_185 : m_M := (⟨"NeverLikeModel", "colourIn", "(II)I"⟩, prog_14_method_47_code, 3, (Option.some Jvm.ClassFile.FieldType.int))
abbrev M_186 : m_M := (⟨"NeverLikeModel", "costIn", "(III)I"⟩, prog_14_method_48_code, 7, (Option.some Jvm.ClassFile.FieldType.int))
abbrev M_187 : m_M := (⟨"NeverLikeModel", "behindStep", "(III)I"⟩, prog_14_method_49_code, 4, (Option.some Jvm.ClassFile.FieldType.int))
abbrev M_188 : m_M := (⟨"NeverLikeModel", "isLawful", "(I)Z"⟩, prog_14_method_50_code, 4, (Option.some Jvm.ClassFile.FieldType.boolean))
abbrev M_189 : m_M := (⟨"NeverLikeModel", "lawful", "()I"⟩, prog_14_method_51_code, 1, (Option.some Jvm.ClassFile.FieldType.int))
abbrev M_190 : m_M := (⟨"NeverLikeModel", "finds", "()V"⟩, prog_14_method_52_code, 1, (Option.none : Option Jvm.ClassFile.FieldType))
abbrev M_191 : m_M := (⟨"NeverLikeModel", "isStep", "(II)Z"⟩, prog_14_method_53_code, 3, (Option.some Jvm.ClassFile.FieldType.boolean))
abbrev M_192 : m_M := (⟨"NeverLikeModel", "step", "(II)I"⟩, prog_14_method_54_code, 3, (Option.some Jvm.ClassFile.FieldType.int))
abbrev M_193 : m_M := (⟨"NeverLikeModel", "paintsOne", "(II)I"⟩, prog_14_method_55_code, 4, (Option.some Jvm.ClassFile.FieldType.int))
abbrev M_194 : m_M := (⟨"NeverLikeModel", "paint", "(II)I"⟩, prog_14_method_56_code, 3, (Option.some Jvm.ClassFile.FieldType.int))
abbrev M_195 : m_M := (⟨"NeverLikeModel", "findFrom", "(I)I"⟩, prog_14_method_57_code, 7, (Option.some Jvm.ClassFile.FieldType.int))
abbrev M_196 : m_M := (⟨"NeverLikeModel", "findNow", "()I"⟩, prog_14_method_58_code, 1, (Option.some Jvm.ClassFile.FieldType.int))
abbrev M_197 : m_M := (⟨"NeverLikeModel", "frozen", "(I)I"⟩, prog_14_method_59_code, 6, (Option.some Jvm.ClassFile.FieldType.int))
abbrev M_198 : m_M := (⟨"NeverLikeModel", "isBothWays", "(III)Z"⟩, prog_14_method_60_code, 4, (Option.some Jvm.ClassFile.FieldType.boolean))
abbrev M_199 : m_M := (⟨"NeverLikeModel", "parts", "()I"⟩, prog_14_method_61_code, 9, (Option.some Jvm.ClassFile.FieldType.int))
abbrev M_200 : m_M := (⟨"NeverLikeModel", "come", "(I)I"⟩, prog_14_method_62_code, 3, (Option.some Jvm.ClassFile.FieldType.int))
abbrev M_201 : m_M := (⟨"NeverLikeModel", "shortest", "(I)I"⟩, prog_14_method_63_code, 2, (Option.some Jvm.ClassFile.FieldType.int))
abbrev M_202 : m_M := (⟨"NeverLikeModel", "findTo", "(I)V"⟩, prog_14_method_64_code, 9, (Option.none : Option Jvm.ClassFile.FieldType))
abbrev M_203 : m_M := (⟨"NeverLikeModel", "first", "(II)I"⟩, prog_14_method_65_code, 7, (Option.some Jvm.ClassFile.FieldType.int))
abbrev M_204 : m_M := (⟨"NeverLikeModel", "findCosts", "()V"⟩, prog_14_method_66_code, 8, (Option.none : Option Jvm.ClassFile.FieldType))
abbrev M_205 : m_M := (⟨"NeverLikeModel", "cheapest", "(I)I"⟩, prog_14_method_67_code, 2, (Option.some Jvm.ClassFile.FieldType.int))
abbrev M_206 : m_M := (⟨"NeverLikeModel", "wished", "(I)I"⟩, prog_14_method_68_code, 4, (Option.some Jvm.ClassFile.FieldType.int))
abbrev M_207 : m_M := (⟨"NeverLikeModel", "wishes", "(I)I"⟩, prog_14_method_69_code, 5, (Option.some Jvm.ClassFile.FieldType.int))
abbrev M_208 : m_M := (⟨"NeverLikeModel", "night", "(II)I"⟩, prog_14_method_70_code, 5, (Option.some Jvm.ClassFile.FieldType.int))
abbrev M_209 : m_M := (⟨"NeverLikeModel", "gap", "(I)I"⟩, prog_14_method_71_code, 4, (Option.some Jvm.ClassFile.FieldType.int))
abbrev M_210 : m_M := (⟨"NeverLikeModel", "turned", "()I"⟩, prog_14_method_72_code, 3, (Option.some Jvm.ClassFile.FieldType.int))
abbrev M_211 : m_M := (⟨"NeverLikeModel", "touched", "(I)I"⟩, prog_14_method_73_code, 4, (Option.some Jvm.ClassFile.FieldType.int))
abbrev M_212 : m_M := (⟨"NeverLikeModel", "joyOf", "(I)I"⟩, prog_14_method_74_code, 4, (Option.some Jvm.ClassFile.FieldType.int))
abbrev M_213 : m_M := (⟨"NeverLikeModel", "worth", "(I)J"⟩, prog_14_method_75_code, 6, (Option.some Jvm.ClassFile.FieldType.long))
abbrev M_214 : m_M := (⟨"NeverLikeModel", "judge", "(II)I"⟩, prog_14_method_76_code, 9, (Option.some Jvm.ClassFile.FieldType.int))
abbrev M_215 : m_M := (⟨"NeverLikeModel", "drawn", "(II)I"⟩, prog_14_method_77_code, 8, (Option.some Jvm.ClassFile.FieldType.int))
abbrev M_216 : m_M := (⟨"NeverLikeModel", "image", "()I"⟩, prog_14_method_78_code, 2, (Option.some Jvm.ClassFile.FieldType.int))
abbrev M_217 : m_M := (⟨"NeverLikeModel", "back", "()I"⟩, prog_14_method_79_code, 2, (Option.some Jvm.ClassFile.FieldType.int))
abbrev M_218 : m_M := (⟨"NeverLikeModel", "count", "(I)I"⟩, prog_14_method_80_code, 2, (Option.some Jvm.ClassFile.FieldType.int))
abbrev M_219 : m_M := (⟨"NeverLikeModel", "isSheet", "(I)Z"⟩, prog_14_method_81_code, 1, (Option.some Jvm.ClassFile.FieldType.boolean))
abbrev M_220 : m_M := (⟨"NeverLikeModel", "sheet", "(III)I"⟩, prog_14_method_82_code, 5, (Option.some Jvm.ClassFile.FieldType.int))
abbrev M_221 : m_M := (⟨"NeverLikeModel", "cell", "(III)I"⟩, prog_14_method_83_code, 4, (Option.some Jvm.ClassFile.FieldType.int))
abbrev M_222 : m_M := (⟨"NeverLikeModel", "hasCells", "(III)Z"⟩, prog_14_method_84_code, 4, (Option.some Jvm.ClassFile.FieldType.boolean))
abbrev M_223 : m_M := (⟨"NeverLikeModel", "copy", "(IIIII)I"⟩, prog_14_method_85_code, 7, (Option.some Jvm.ClassFile.FieldType.int))
abbrev M_224 : m_M := (⟨"NeverLikeModel", "paints", "(IIII)I"⟩, prog_14_method_86_code, 10, (Option.some Jvm.ClassFile.FieldType.int))
abbrev M_225 : m_M := (⟨"java/lang/Integer", "bitCount", "(I)I"⟩, prog_15_method_49_code, 1, (Option.some Jvm.ClassFile.FieldType.int))
def m_tabL : List m_M := [M_0, M_1, M_2, M_3, M_4, M_5, M_6, M_7, M_8, M_9, M_10, M_11, M_12, M_13, M_14, M_15, M_16, M_17, M_18, M_19, M_20, M_21, M_22, M_23, M_24, M_25, M_26, M_27, M_28, M_29, M_30, M_31, M_32, M_33, M_34, M_35, M_36, M_37, M_38, M_39, M_40, M_41, M_42, M_43, M_44, M_45, M_46, M_47, M_48, M_49, M_50, M_51, M_52, M_53, M_54, M_55, M_56, M_57, M_58, M_59, M_60, M_61, M_62, M_63, M_64, M_65, M_66, M_67, M_68, M_69, M_70, M_71, M_72, M_73, M_74, M_75, M_76, M_77, M_78, M_79, M_80, M_81, M_82, M_83, M_84, M_85, M_86, M_87, M_88, M_89, M_90, M_91, M_92, M_93, M_94, M_95, M_96, M_97, M_98, M_99, M_100, M_101, M_102, M_103, M_104, M_105, M_106, M_107, M_108, M_109, M_110, M_111, M_112, M_113, M_114, M_115, M_116, M_117, M_118, M_119, M_120, M_121, M_122, M_123, M_124, M_125, M_126, M_127, M_128, M_129, M_130, M_131, M_132, M_133, M_134, M_135, M_136, M_137, M_138, M_139, M_140, M_141, M_142, M_143, M_144, M_145, M_146, M_147, M_148, M_149, M_150, M_151, M_152, M_153, M_154, M_155, M_156, M_157, M_158, M_159, M_160, M_161, M_162, M_163, M_164, M_165, M_166, M_167, M_168, M_169, M_170, M_171, M_172, M_173, M_174, M_175, M_176, M_177, M_178, M_179, M_180, M_181, M_182, M_183, M_184, M_185, M_186, M_187, M_188, M_189, M_190, M_191, M_192, M_193, M_194, M_195, M_196, M_197, M_198, M_199, M_200, M_201, M_202, M_203, M_204, M_205, M_206, M_207, M_208, M_209, M_210, M_211, M_212, M_213, M_214, M_215, M_216, M_217, M_218, M_219, M_220, M_221, M_222, M_223, M_224, M_225]
def m_tab (k : Nat) : Option m_M := m_tabL[k]?
theorem tb_0 : m_tab 0 = some M_0 := rfl
theorem nn_0 : m_nn M_0 1 := by unfold m_nn; exact ⟨by decide +kernel, by decide +kernel, by decide +kernel⟩
theorem tb_1 : m_tab 1 = some M_1 := rfl
theorem nn_1 : m_nn M_1 1 := by unfold m_nn; exact ⟨by decide +kernel, by decide +kernel, by decide +kernel⟩
theorem tb_2 : m_tab 2 = some M_2 := rfl
theorem nn_2 : m_nn M_2 3 := by unfold m_nn; exact ⟨by decide +kernel, by decide +kernel, by decide +kernel⟩
theorem tb_3 : m_tab 3 = some M_3 := rfl
theorem nn_3 : m_nn M_3 3 := by unfold m_nn; exact ⟨by decide +kernel, by decide +kernel, by decide +kernel⟩
theorem tb_4 : m_tab 4 = some M_4 := rfl
theorem nn_4 : m_nn M_4 1 := by unfold m_nn; exact ⟨by decide +kernel, by decide +kernel, by decide +kernel⟩
theorem tb_5 : m_tab 5 = some M_5 := rfl
theorem nn_5 : m_nn M_5 3 := by unfold m_nn; exact ⟨by decide +kernel, by decide +kernel, by decide +kernel⟩
theorem tb_6 : m_tab 6 = some M_6 := rfl
theorem nn_6 : m_nn M_6 3 := by unfold m_nn; exact ⟨by decide +kernel, by decide +kernel, by decide +kernel⟩
theorem tb_7 : m_tab 7 = some M_7 := rfl
theorem nn_7 : m_nn M_7 1 := by unfold m_nn; exact ⟨by decide +kernel, by decide +kernel, by decide +kernel⟩
theorem tb_8 : m_tab 8 = some M_8 := rfl
theorem nn_8 : m_nn M_8 3 := by unfold m_nn; exact ⟨by decide +kernel, by decide +kernel, by decide +kernel⟩
theorem tb_9 : m_tab 9 = some M_9 := rfl
theorem nn_9 : m_nn M_9 1 := by unfold m_nn; exact ⟨by decide +kernel, by decide +kernel, by decide +kernel⟩
theorem tb_10 : m_tab 10 = some M_10 := rfl
theorem nn_10 : m_nn M_10 3 := by unfold m_nn; exact ⟨by decide +kernel, by decide +kernel, by decide +kernel⟩
theorem tb_11 : m_tab 11 = some M_11 := rfl
theorem nn_11 : m_nn M_11 3 := by unfold m_nn; exact ⟨by decide +kernel, by decide +kernel, by decide +kernel⟩
theorem tb_12 : m_tab 12 = some M_12 := rfl
theorem nn_12 : m_nn M_12 0 := by unfold m_nn; exact ⟨by decide +kernel, by decide +kernel, by decide +kernel⟩
theorem tb_13 : m_tab 13 = some M_13 := rfl
theorem nn_13 : m_nn M_13 1 := by unfold m_nn; exact ⟨by decide +kernel, by decide +kernel, by decide +kernel⟩
theorem tb_14 : m_tab 14 = some M_14 := rfl
theorem nn_14 : m_nn M_14 0 := by unfold m_nn; exact ⟨by decide +kernel, by decide +kernel, by decide +kernel⟩
theorem tb_15 : m_tab 15 = some M_15 := rfl
theorem nn_15 : m_nn M_15 0 := by unfold m_nn; exact ⟨by decide +kernel, by decide +kernel, by decide +kernel⟩
theorem tb_16 : m_tab 16 = some M_16 := rfl
theorem nn_16 : m_nn M_16 1 := by unfold m_nn; exact ⟨by decide +kernel, by decide +kernel, by decide +kernel⟩
theorem tb_17 : m_tab 17 = some M_17 := rfl
theorem nn_17 : m_nn M_17 1 := by unfold m_nn; exact ⟨by decide +kernel, by decide +kernel, by decide +kernel⟩
theorem tb_18 : m_tab 18 = some M_18 := rfl
theorem nn_18 : m_nn M_18 0 := by unfold m_nn; exact ⟨by decide +kernel, by decide +kernel, by decide +kernel⟩
theorem tb_19 : m_tab 19 = some M_19 := rfl
theorem nn_19 : m_nn M_19 0 := by unfold m_nn; exact ⟨by decide +kernel, by decide +kernel, by decide +kernel⟩
theorem tb_20 : m_tab 20 = some M_20 := rfl
theorem nn_20 : m_nn M_20 1 := by unfold m_nn; exact ⟨by decide +kernel, by decide +kernel, by decide +kernel⟩
theorem tb_21 : m_tab 21 = some M_21 := rfl
theorem nn_21 : m_nn M_21 2 := by unfold m_nn; exact ⟨by decide +kernel, by decide +kernel, by decide +kernel⟩
theorem tb_22 : m_tab 22 = some M_22 := rfl
theorem nn_22 : m_nn M_22 1 := by unfold m_nn; exact ⟨by decide +kernel, by decide +kernel, by decide +kernel⟩
theorem tb_23 : m_tab 23 = some M_23 := rfl
theorem nn_23 : m_nn M_23 1 := by unfold m_nn; exact ⟨by decide +kernel, by decide +kernel, by decide +kernel⟩
theorem tb_24 : m_tab 24 = some M_24 := rfl
theorem nn_24 : m_nn M_24 1 := by unfold m_nn; exact ⟨by decide +kernel, by decide +kernel, by decide +kernel⟩
theorem tb_25 : m_tab 25 = some M_25 := rfl
theorem nn_25 : m_nn M_25 1 := by unfold m_nn; exact ⟨by decide +kernel, by decide +kernel, by decide +kernel⟩
theorem tb_26 : m_tab 26 = some M_26 := rfl
theorem nn_26 : m_nn M_26 0 := by unfold m_nn; exact ⟨by decide +kernel, by decide +kernel, by decide +kernel⟩
theorem tb_27 : m_tab 27 = some M_27 := rfl
theorem nn_27 : m_nn M_27 1 := by unfold m_nn; exact ⟨by decide +kernel, by decide +kernel, by decide +kernel⟩
theorem tb_28 : m_tab 28 = some M_28 := rfl
theorem nn_28 : m_nn M_28 1 := by unfold m_nn; exact ⟨by decide +kernel, by decide +kernel, by decide +kernel⟩
theorem tb_29 : m_tab 29 = some M_29 := rfl
theorem nn_29 : m_nn M_29 1 := by unfold m_nn; exact ⟨by decide +kernel, by decide +kernel, by decide +kernel⟩
theorem tb_30 : m_tab 30 = some M_30 := rfl
theorem nn_30 : m_nn M_30 2 := by unfold m_nn; exact ⟨by decide +kernel, by decide +kernel, by decide +kernel⟩
theorem tb_31 : m_tab 31 = some M_31 := rfl
theorem nn_31 : m_nn M_31 2 := by unfold m_nn; exact ⟨by decide +kernel, by decide +kernel, by decide +kernel⟩
theorem tb_32 : m_tab 32 = some M_32 := rfl
theorem nn_32 : m_nn M_32 2 := by unfold m_nn; exact ⟨by decide +kernel, by decide +kernel, by decide +kernel⟩
theorem tb_33 : m_tab 33 = some M_33 := rfl
theorem nn_33 : m_nn M_33 2 := by unfold m_nn; exact ⟨by decide +kernel, by decide +kernel, by decide +kernel⟩
theorem tb_34 : m_tab 34 = some M_34 := rfl
theorem nn_34 : m_nn M_34 3 := by unfold m_nn; exact ⟨by decide +kernel, by decide +kernel, by decide +kernel⟩
theorem tb_35 : m_tab 35 = some M_35 := rfl
theorem nn_35 : m_nn M_35 1 := by unfold m_nn; exact ⟨by decide +kernel, by decide +kernel, by decide +kernel⟩
theorem tb_36 : m_tab 36 = some M_36 := rfl
theorem nn_36 : m_nn M_36 1 := by unfold m_nn; exact ⟨by decide +kernel, by decide +kernel, by decide +kernel⟩
theorem tb_37 : m_tab 37 = some M_37 := rfl
theorem nn_37 : m_nn M_37 0 := by unfold m_nn; exact ⟨by decide +kernel, by decide +kernel, by decide +kernel⟩
theorem tb_38 : m_tab 38 = some M_38 := rfl
theorem nn_38 : m_nn M_38 4 := by unfold m_nn; exact ⟨by decide +kernel, by decide +kernel, by decide +kernel⟩
theorem tb_39 : m_tab 39 = some M_39 := rfl
theorem nn_39 : m_nn M_39 3 := by unfold m_nn; exact ⟨by decide +kernel, by decide +kernel, by decide +kernel⟩
theorem tb_40 : m_tab 40 = some M_40 := rfl
theorem nn_40 : m_nn M_40 1 := by unfold m_nn; exact ⟨by decide +kernel, by decide +kernel, by decide +kernel⟩
theorem tb_41 : m_tab 41 = some M_41 := rfl
theorem nn_41 : m_nn M_41 0 := by unfold m_nn; exact ⟨by decide +kernel, by decide +kernel, by decide +kernel⟩
theorem tb_42 : m_tab 42 = some M_42 := rfl
theorem nn_42 : m_nn M_42 2 := by unfold m_nn; exact ⟨by decide +kernel, by decide +kernel, by decide +kernel⟩
theorem tb_43 : m_tab 43 = some M_43 := rfl
theorem nn_43 : m_nn M_43 2 := by unfold m_nn; exact ⟨by decide +kernel, by decide +kernel, by decide +kernel⟩
theorem tb_44 : m_tab 44 = some M_44 := rfl
theorem nn_44 : m_nn M_44 2 := by unfold m_nn; exact ⟨by decide +kernel, by decide +kernel, by decide +kernel⟩
theorem tb_45 : m_tab 45 = some M_45 := rfl
theorem nn_45 : m_nn M_45 1 := by unfold m_nn; exact ⟨by decide +kernel, by decide +kernel, by decide +kernel⟩
theorem tb_46 : m_tab 46 = some M_46 := rfl
theorem nn_46 : m_nn M_46 2 := by unfold m_nn; exact ⟨by decide +kernel, by decide +kernel, by decide +kernel⟩
theorem tb_47 : m_tab 47 = some M_47 := rfl
theorem nn_47 : m_nn M_47 0 := by unfold m_nn; exact ⟨by decide +kernel, by decide +kernel, by decide +kernel⟩
theorem tb_48 : m_tab 48 = some M_48 := rfl
theorem nn_48 : m_nn M_48 0 := by unfold m_nn; exact ⟨by decide +kernel, by decide +kernel, by decide +kernel⟩
theorem tb_49 : m_tab 49 = some M_49 := rfl
theorem nn_49 : m_nn M_49 0 := by unfold m_nn; exact ⟨by decide +kernel, by decide +kernel, by decide +kernel⟩
theorem tb_50 : m_tab 50 = some M_50 := rfl
theorem nn_50 : m_nn M_50 0 := by unfold m_nn; exact ⟨by decide +kernel, by decide +kernel, by decide +kernel⟩
theorem tb_51 : m_tab 51 = some M_51 := rfl
theorem nn_51 : m_nn M_51 0 := by unfold m_nn; exact ⟨by decide +kernel, by decide +kernel, by decide +kernel⟩
theorem tb_52 : m_tab 52 = some M_52 := rfl
theorem nn_52 : m_nn M_52 1 := by unfold m_nn; exact ⟨by decide +kernel, by decide +kernel, by decide +kernel⟩
theorem tb_53 : m_tab 53 = some M_53 := rfl
theorem nn_53 : m_nn M_53 2 := by unfold m_nn; exact ⟨by decide +kernel, by decide +kernel, by decide +kernel⟩
theorem tb_54 : m_tab 54 = some M_54 := rfl
theorem nn_54 : m_nn M_54 2 := by unfold m_nn; exact ⟨by decide +kernel, by decide +kernel, by decide +kernel⟩
theorem tb_55 : m_tab 55 = some M_55 := rfl
theorem nn_55 : m_nn M_55 1 := by unfold m_nn; exact ⟨by decide +kernel, by decide +kernel, by decide +kernel⟩
theorem tb_56 : m_tab 56 = some M_56 := rfl
theorem nn_56 : m_nn M_56 1 := by unfold m_nn; exact ⟨by decide +kernel, by decide +kernel, by decide +kernel⟩
theorem tb_57 : m_tab 57 = some M_57 := rfl
theorem nn_57 : m_nn M_57 1 := by unfold m_nn; exact ⟨by decide +kernel, by decide +kernel, by decide +kernel⟩
theorem tb_58 : m_tab 58 = some M_58 := rfl
theorem nn_58 : m_nn M_58 0 := by unfold m_nn; exact ⟨by decide +kernel, by decide +kernel, by decide +kernel⟩
theorem tb_59 : m_tab 59 = some M_59 := rfl
theorem nn_59 : m_nn M_59 2 := by unfold m_nn; exact ⟨by decide +kernel, by decide +kernel, by decide +kernel⟩
theorem tb_60 : m_tab 60 = some M_60 := rfl
theorem nn_60 : m_nn M_60 1 := by unfold m_nn; exact ⟨by decide +kernel, by decide +kernel, by decide +kernel⟩
theorem tb_61 : m_tab 61 = some M_61 := rfl
theorem nn_61 : m_nn M_61 2 := by unfold m_nn; exact ⟨by decide +kernel, by decide +kernel, by decide +kernel⟩
theorem tb_62 : m_tab 62 = some M_62 := rfl
theorem nn_62 : m_nn M_62 1 := by unfold m_nn; exact ⟨by decide +kernel, by decide +kernel, by decide +kernel⟩
theorem tb_63 : m_tab 63 = some M_63 := rfl
theorem nn_63 : m_nn M_63 2 := by unfold m_nn; exact ⟨by decide +kernel, by decide +kernel, by decide +kernel⟩
theorem tb_64 : m_tab 64 = some M_64 := rfl
theorem nn_64 : m_nn M_64 2 := by unfold m_nn; exact ⟨by decide +kernel, by decide +kernel, by decide +kernel⟩
theorem tb_65 : m_tab 65 = some M_65 := rfl
theorem nn_65 : m_nn M_65 1 := by unfold m_nn; exact ⟨by decide +kernel, by decide +kernel, by decide +kernel⟩
theorem tb_66 : m_tab 66 = some M_66 := rfl
theorem nn_66 : m_nn M_66 3 := by unfold m_nn; exact ⟨by decide +kernel, by decide +kernel, by decide +kernel⟩
theorem tb_67 : m_tab 67 = some M_67 := rfl
theorem nn_67 : m_nn M_67 3 := by unfold m_nn; exact ⟨by decide +kernel, by decide +kernel, by decide +kernel⟩
theorem tb_68 : m_tab 68 = some M_68 := rfl
theorem nn_68 : m_nn M_68 1 := by unfold m_nn; exact ⟨by decide +kernel, by decide +kernel, by decide +kernel⟩
theorem tb_69 : m_tab 69 = some M_69 := rfl
theorem nn_69 : m_nn M_69 3 := by unfold m_nn; exact ⟨by decide +kernel, by decide +kernel, by decide +kernel⟩
theorem tb_70 : m_tab 70 = some M_70 := rfl
theorem nn_70 : m_nn M_70 3 := by unfold m_nn; exact ⟨by decide +kernel, by decide +kernel, by decide +kernel⟩
theorem tb_71 : m_tab 71 = some M_71 := rfl
theorem nn_71 : m_nn M_71 1 := by unfold m_nn; exact ⟨by decide +kernel, by decide +kernel, by decide +kernel⟩
theorem tb_72 : m_tab 72 = some M_72 := rfl
theorem nn_72 : m_nn M_72 1 := by unfold m_nn; exact ⟨by decide +kernel, by decide +kernel, by decide +kernel⟩
theorem tb_73 : m_tab 73 = some M_73 := rfl
theorem nn_73 : m_nn M_73 1 := by unfold m_nn; exact ⟨by decide +kernel, by decide +kernel, by decide +kernel⟩
theorem tb_74 : m_tab 74 = some M_74 := rfl
theorem nn_74 : m_nn M_74 3 := by unfold m_nn; exact ⟨by decide +kernel, by decide +kernel, by decide +kernel⟩
theorem tb_75 : m_tab 75 = some M_75 := rfl
theorem nn_75 : m_nn M_75 3 := by unfold m_nn; exact ⟨by decide +kernel, by decide +kernel, by decide +kernel⟩
theorem tb_76 : m_tab 76 = some M_76 := rfl
theorem nn_76 : m_nn M_76 0 := by unfold m_nn; exact ⟨by decide +kernel, by decide +kernel, by decide +kernel⟩
theorem tb_77 : m_tab 77 = some M_77 := rfl
theorem nn_77 : m_nn M_77 2 := by unfold m_nn; exact ⟨by decide +kernel, by decide +kernel, by decide +kernel⟩
theorem tb_78 : m_tab 78 = some M_78 := rfl
theorem nn_78 : m_nn M_78 1 := by unfold m_nn; exact ⟨by decide +kernel, by decide +kernel, by decide +kernel⟩
theorem tb_79 : m_tab 79 = some M_79 := rfl
theorem nn_79 : m_nn M_79 3 := by unfold m_nn; exact ⟨by decide +kernel, by decide +kernel, by decide +kernel⟩
theorem tb_80 : m_tab 80 = some M_80 := rfl
theorem nn_80 : m_nn M_80 1 := by unfold m_nn; exact ⟨by decide +kernel, by decide +kernel, by decide +kernel⟩
theorem tb_81 : m_tab 81 = some M_81 := rfl
theorem nn_81 : m_nn M_81 2 := by unfold m_nn; exact ⟨by decide +kernel, by decide +kernel, by decide +kernel⟩
theorem tb_82 : m_tab 82 = some M_82 := rfl
theorem nn_82 : m_nn M_82 1 := by unfold m_nn; exact ⟨by decide +kernel, by decide +kernel, by decide +kernel⟩
theorem tb_83 : m_tab 83 = some M_83 := rfl
theorem nn_83 : m_nn M_83 1 := by unfold m_nn; exact ⟨by decide +kernel, by decide +kernel, by decide +kernel⟩
theorem tb_84 : m_tab 84 = some M_84 := rfl
theorem nn_84 : m_nn M_84 1 := by unfold m_nn; exact ⟨by decide +kernel, by decide +kernel, by decide +kernel⟩
theorem tb_85 : m_tab 85 = some M_85 := rfl
theorem nn_85 : m_nn M_85 2 := by unfold m_nn; exact ⟨by decide +kernel, by decide +kernel, by decide +kernel⟩
theorem tb_86 : m_tab 86 = some M_86 := rfl
theorem nn_86 : m_nn M_86 1 := by unfold m_nn; exact ⟨by decide +kernel, by decide +kernel, by decide +kernel⟩
theorem tb_87 : m_tab 87 = some M_87 := rfl
theorem nn_87 : m_nn M_87 1 := by unfold m_nn; exact ⟨by decide +kernel, by decide +kernel, by decide +kernel⟩
theorem tb_88 : m_tab 88 = some M_88 := rfl
theorem nn_88 : m_nn M_88 0 := by unfold m_nn; exact ⟨by decide +kernel, by decide +kernel, by decide +kernel⟩
theorem tb_89 : m_tab 89 = some M_89 := rfl
theorem nn_89 : m_nn M_89 2 := by unfold m_nn; exact ⟨by decide +kernel, by decide +kernel, by decide +kernel⟩
theorem tb_90 : m_tab 90 = some M_90 := rfl
theorem nn_90 : m_nn M_90 3 := by unfold m_nn; exact ⟨by decide +kernel, by decide +kernel, by decide +kernel⟩
theorem tb_91 : m_tab 91 = some M_91 := rfl
theorem nn_91 : m_nn M_91 3 := by unfold m_nn; exact ⟨by decide +kernel, by decide +kernel, by decide +kernel⟩
theorem tb_92 : m_tab 92 = some M_92 := rfl
theorem nn_92 : m_nn M_92 2 := by unfold m_nn; exact ⟨by decide +kernel, by decide +kernel, by decide +kernel⟩
theorem tb_93 : m_tab 93 = some M_93 := rfl
theorem nn_93 : m_nn M_93 2 := by unfold m_nn; exact ⟨by decide +kernel, by decide +kernel, by decide +kernel⟩
theorem tb_94 : m_tab 94 = some M_94 := rfl
theorem nn_94 : m_nn M_94 3 := by unfold m_nn; exact ⟨by decide +kernel, by decide +kernel, by decide +kernel⟩
theorem tb_95 : m_tab 95 = some M_95 := rfl
theorem nn_95 : m_nn M_95 1 := by unfold m_nn; exact ⟨by decide +kernel, by decide +kernel, by decide +kernel⟩
theorem tb_96 : m_tab 96 = some M_96 := rfl
theorem nn_96 : m_nn M_96 0 := by unfold m_nn; exact ⟨by decide +kernel, by decide +kernel, by decide +kernel⟩
theorem tb_97 : m_tab 97 = some M_97 := rfl
theorem nn_97 : m_nn M_97 1 := by unfold m_nn; exact ⟨by decide +kernel, by decide +kernel, by decide +kernel⟩
theorem tb_98 : m_tab 98 = some M_98 := rfl
theorem nn_98 : m_nn M_98 0 := by unfold m_nn; exact ⟨by decide +kernel, by decide +kernel, by decide +kernel⟩
theorem tb_99 : m_tab 99 = some M_99 := rfl
theorem nn_99 : m_nn M_99 2 := by unfold m_nn; exact ⟨by decide +kernel, by decide +kernel, by decide +kernel⟩
theorem tb_100 : m_tab 100 = some M_100 := rfl
theorem nn_100 : m_nn M_100 2 := by unfold m_nn; exact ⟨by decide +kernel, by decide +kernel, by decide +kernel⟩
theorem tb_101 : m_tab 101 = some M_101 := rfl
theorem nn_101 : m_nn M_101 1 := by unfold m_nn; exact ⟨by decide +kernel, by decide +kernel, by decide +kernel⟩
theorem tb_102 : m_tab 102 = some M_102 := rfl
theorem nn_102 : m_nn M_102 1 := by unfold m_nn; exact ⟨by decide +kernel, by decide +kernel, by decide +kernel⟩
theorem tb_103 : m_tab 103 = some M_103 := rfl
theorem nn_103 : m_nn M_103 2 := by unfold m_nn; exact ⟨by decide +kernel, by decide +kernel, by decide +kernel⟩
theorem tb_104 : m_tab 104 = some M_104 := rfl
theorem nn_104 : m_nn M_104 1 := by unfold m_nn; exact ⟨by decide +kernel, by decide +kernel, by decide +kernel⟩
theorem tb_105 : m_tab 105 = some M_105 := rfl
theorem nn_105 : m_nn M_105 1 := by unfold m_nn; exact ⟨by decide +kernel, by decide +kernel, by decide +kernel⟩
theorem tb_106 : m_tab 106 = some M_106 := rfl
theorem nn_106 : m_nn M_106 2 := by unfold m_nn; exact ⟨by decide +kernel, by decide +kernel, by decide +kernel⟩
theorem tb_107 : m_tab 107 = some M_107 := rfl
theorem nn_107 : m_nn M_107 1 := by unfold m_nn; exact ⟨by decide +kernel, by decide +kernel, by decide +kernel⟩
theorem tb_108 : m_tab 108 = some M_108 := rfl
theorem nn_108 : m_nn M_108 0 := by unfold m_nn; exact ⟨by decide +kernel, by decide +kernel, by decide +kernel⟩
theorem tb_109 : m_tab 109 = some M_109 := rfl
theorem nn_109 : m_nn M_109 1 := by unfold m_nn; exact ⟨by decide +kernel, by decide +kernel, by decide +kernel⟩
theorem tb_110 : m_tab 110 = some M_110 := rfl
theorem nn_110 : m_nn M_110 1 := by unfold m_nn; exact ⟨by decide +kernel, by decide +kernel, by decide +kernel⟩
theorem tb_111 : m_tab 111 = some M_111 := rfl
theorem nn_111 : m_nn M_111 2 := by unfold m_nn; exact ⟨by decide +kernel, by decide +kernel, by decide +kernel⟩
theorem tb_112 : m_tab 112 = some M_112 := rfl
theorem nn_112 : m_nn M_112 2 := by unfold m_nn; exact ⟨by decide +kernel, by decide +kernel, by decide +kernel⟩
theorem tb_113 : m_tab 113 = some M_113 := rfl
theorem nn_113 : m_nn M_113 0 := by unfold m_nn; exact ⟨by decide +kernel, by decide +kernel, by decide +kernel⟩
theorem tb_114 : m_tab 114 = some M_114 := rfl
theorem nn_114 : m_nn M_114 0 := by unfold m_nn; exact ⟨by decide +kernel, by decide +kernel, by decide +kernel⟩
theorem tb_115 : m_tab 115 = some M_115 := rfl
theorem nn_115 : m_nn M_115 1 := by unfold m_nn; exact ⟨by decide +kernel, by decide +kernel, by decide +kernel⟩
theorem tb_116 : m_tab 116 = some M_116 := rfl
theorem nn_116 : m_nn M_116 3 := by unfold m_nn; exact ⟨by decide +kernel, by decide +kernel, by decide +kernel⟩
theorem tb_117 : m_tab 117 = some M_117 := rfl
theorem nn_117 : m_nn M_117 3 := by unfold m_nn; exact ⟨by decide +kernel, by decide +kernel, by decide +kernel⟩
theorem tb_118 : m_tab 118 = some M_118 := rfl
theorem nn_118 : m_nn M_118 5 := by unfold m_nn; exact ⟨by decide +kernel, by decide +kernel, by decide +kernel⟩
theorem tb_119 : m_tab 119 = some M_119 := rfl
theorem nn_119 : m_nn M_119 4 := by unfold m_nn; exact ⟨by decide +kernel, by decide +kernel, by decide +kernel⟩
theorem tb_120 : m_tab 120 = some M_120 := rfl
theorem nn_120 : m_nn M_120 2 := by unfold m_nn; exact ⟨by decide +kernel, by decide +kernel, by decide +kernel⟩
theorem tb_121 : m_tab 121 = some M_121 := rfl
theorem nn_121 : m_nn M_121 2 := by unfold m_nn; exact ⟨by decide +kernel, by decide +kernel, by decide +kernel⟩
theorem tb_122 : m_tab 122 = some M_122 := rfl
theorem nn_122 : m_nn M_122 1 := by unfold m_nn; exact ⟨by decide +kernel, by decide +kernel, by decide +kernel⟩
theorem tb_123 : m_tab 123 = some M_123 := rfl
theorem nn_123 : m_nn M_123 1 := by unfold m_nn; exact ⟨by decide +kernel, by decide +kernel, by decide +kernel⟩
theorem tb_124 : m_tab 124 = some M_124 := rfl
theorem nn_124 : m_nn M_124 2 := by unfold m_nn; exact ⟨by decide +kernel, by decide +kernel, by decide +kernel⟩
theorem tb_125 : m_tab 125 = some M_125 := rfl
theorem nn_125 : m_nn M_125 3 := by unfold m_nn; exact ⟨by decide +kernel, by decide +kernel, by decide +kernel⟩
theorem tb_126 : m_tab 126 = some M_126 := rfl
theorem nn_126 : m_nn M_126 1 := by unfold m_nn; exact ⟨by decide +kernel, by decide +kernel, by decide +kernel⟩
theorem tb_127 : m_tab 127 = some M_127 := rfl
theorem nn_127 : m_nn M_127 2 := by unfold m_nn; exact ⟨by decide +kernel, by decide +kernel, by decide +kernel⟩
theorem tb_128 : m_tab 128 = some M_128 := rfl
theorem nn_128 : m_nn M_128 2 := by unfold m_nn; exact ⟨by decide +kernel, by decide +kernel, by decide +kernel⟩
theorem tb_129 : m_tab 129 = some M_129 := rfl
theorem nn_129 : m_nn M_129 3 := by unfold m_nn; exact ⟨by decide +kernel, by decide +kernel, by decide +kernel⟩
theorem tb_130 : m_tab 130 = some M_130 := rfl
theorem nn_130 : m_nn M_130 1 := by unfold m_nn; exact ⟨by decide +kernel, by decide +kernel, by decide +kernel⟩
theorem tb_131 : m_tab 131 = some M_131 := rfl
theorem nn_131 : m_nn M_131 3 := by unfold m_nn; exact ⟨by decide +kernel, by decide +kernel, by decide +kernel⟩
theorem tb_132 : m_tab 132 = some M_132 := rfl
theorem nn_132 : m_nn M_132 3 := by unfold m_nn; exact ⟨by decide +kernel, by decide +kernel, by decide +kernel⟩
theorem tb_133 : m_tab 133 = some M_133 := rfl
theorem nn_133 : m_nn M_133 1 := by unfold m_nn; exact ⟨by decide +kernel, by decide +kernel, by decide +kernel⟩
theorem tb_134 : m_tab 134 = some M_134 := rfl
theorem nn_134 : m_nn M_134 0 := by unfold m_nn; exact ⟨by decide +kernel, by decide +kernel, by decide +kernel⟩
theorem tb_135 : m_tab 135 = some M_135 := rfl
theorem nn_135 : m_nn M_135 3 := by unfold m_nn; exact ⟨by decide +kernel, by decide +kernel, by decide +kernel⟩
theorem tb_136 : m_tab 136 = some M_136 := rfl
theorem nn_136 : m_nn M_136 2 := by unfold m_nn; exact ⟨by decide +kernel, by decide +kernel, by decide +kernel⟩
theorem tb_137 : m_tab 137 = some M_137 := rfl
theorem nn_137 : m_nn M_137 0 := by unfold m_nn; exact ⟨by decide +kernel, by decide +kernel, by decide +kernel⟩
theorem tb_138 : m_tab 138 = some M_138 := rfl
theorem nn_138 : m_nn M_138 0 := by unfold m_nn; exact ⟨by decide +kernel, by decide +kernel, by decide +kernel⟩
theorem tb_139 : m_tab 139 = some M_139 := rfl
theorem nn_139 : m_nn M_139 0 := by unfold m_nn; exact ⟨by decide +kernel, by decide +kernel, by decide +kernel⟩
theorem tb_140 : m_tab 140 = some M_140 := rfl
theorem nn_140 : m_nn M_140 3 := by unfold m_nn; exact ⟨by decide +kernel, by decide +kernel, by decide +kernel⟩
theorem tb_141 : m_tab 141 = some M_141 := rfl
theorem nn_141 : m_nn M_141 2 := by unfold m_nn; exact ⟨by decide +kernel, by decide +kernel, by decide +kernel⟩
theorem tb_142 : m_tab 142 = some M_142 := rfl
theorem nn_142 : m_nn M_142 1 := by unfold m_nn; exact ⟨by decide +kernel, by decide +kernel, by decide +kernel⟩
theorem tb_143 : m_tab 143 = some M_143 := rfl
theorem nn_143 : m_nn M_143 1 := by unfold m_nn; exact ⟨by decide +kernel, by decide +kernel, by decide +kernel⟩
theorem tb_144 : m_tab 144 = some M_144 := rfl
theorem nn_144 : m_nn M_144 2 := by unfold m_nn; exact ⟨by decide +kernel, by decide +kernel, by decide +kernel⟩
theorem tb_145 : m_tab 145 = some M_145 := rfl
theorem nn_145 : m_nn M_145 0 := by unfold m_nn; exact ⟨by decide +kernel, by decide +kernel, by decide +kernel⟩
theorem tb_146 : m_tab 146 = some M_146 := rfl
theorem nn_146 : m_nn M_146 1 := by unfold m_nn; exact ⟨by decide +kernel, by decide +kernel, by decide +kernel⟩
theorem tb_147 : m_tab 147 = some M_147 := rfl
theorem nn_147 : m_nn M_147 2 := by unfold m_nn; exact ⟨by decide +kernel, by decide +kernel, by decide +kernel⟩
theorem tb_148 : m_tab 148 = some M_148 := rfl
theorem nn_148 : m_nn M_148 2 := by unfold m_nn; exact ⟨by decide +kernel, by decide +kernel, by decide +kernel⟩
theorem tb_149 : m_tab 149 = some M_149 := rfl
theorem nn_149 : m_nn M_149 3 := by unfold m_nn; exact ⟨by decide +kernel, by decide +kernel, by decide +kernel⟩
theorem tb_150 : m_tab 150 = some M_150 := rfl
theorem nn_150 : m_nn M_150 3 := by unfold m_nn; exact ⟨by decide +kernel, by decide +kernel, by decide +kernel⟩
theorem tb_151 : m_tab 151 = some M_151 := rfl
theorem nn_151 : m_nn M_151 2 := by unfold m_nn; exact ⟨by decide +kernel, by decide +kernel, by decide +kernel⟩
theorem tb_152 : m_tab 152 = some M_152 := rfl
theorem nn_152 : m_nn M_152 2 := by unfold m_nn; exact ⟨by decide +kernel, by decide +kernel, by decide +kernel⟩
theorem tb_153 : m_tab 153 = some M_153 := rfl
theorem nn_153 : m_nn M_153 4 := by unfold m_nn; exact ⟨by decide +kernel, by decide +kernel, by decide +kernel⟩
theorem tb_154 : m_tab 154 = some M_154 := rfl
theorem nn_154 : m_nn M_154 4 := by unfold m_nn; exact ⟨by decide +kernel, by decide +kernel, by decide +kernel⟩
theorem tb_155 : m_tab 155 = some M_155 := rfl
theorem nn_155 : m_nn M_155 3 := by unfold m_nn; exact ⟨by decide +kernel, by decide +kernel, by decide +kernel⟩
theorem tb_156 : m_tab 156 = some M_156 := rfl
theorem nn_156 : m_nn M_156 2 := by unfold m_nn; exact ⟨by decide +kernel, by decide +kernel, by decide +kernel⟩
theorem tb_157 : m_tab 157 = some M_157 := rfl
theorem nn_157 : m_nn M_157 2 := by unfold m_nn; exact ⟨by decide +kernel, by decide +kernel, by decide +kernel⟩
theorem tb_158 : m_tab 158 = some M_158 := rfl
theorem nn_158 : m_nn M_158 1 := by unfold m_nn; exact ⟨by decide +kernel, by decide +kernel, by decide +kernel⟩
theorem tb_159 : m_tab 159 = some M_159 := rfl
theorem nn_159 : m_nn M_159 0 := by unfold m_nn; exact ⟨by decide +kernel, by decide +kernel, by decide +kernel⟩
theorem tb_160 : m_tab 160 = some M_160 := rfl
theorem nn_160 : m_nn M_160 1 := by unfold m_nn; exact ⟨by decide +kernel, by decide +kernel, by decide +kernel⟩
theorem tb_161 : m_tab 161 = some M_161 := rfl
theorem nn_161 : m_nn M_161 2 := by unfold m_nn; exact ⟨by decide +kernel, by decide +kernel, by decide +kernel⟩
theorem tb_162 : m_tab 162 = some M_162 := rfl
theorem nn_162 : m_nn M_162 1 := by unfold m_nn; exact ⟨by decide +kernel, by decide +kernel, by decide +kernel⟩
theorem tb_163 : m_tab 163 = some M_163 := rfl
theorem nn_163 : m_nn M_163 1 := by unfold m_nn; exact ⟨by decide +kernel, by decide +kernel, by decide +kernel⟩
theorem tb_164 : m_tab 164 = some M_164 := rfl
theorem nn_164 : m_nn M_164 0 := by unfold m_nn; exact ⟨by decide +kernel, by decide +kernel, by decide +kernel⟩
theorem tb_165 : m_tab 165 = some M_165 := rfl
theorem nn_165 : m_nn M_165 0 := by unfold m_nn; exact ⟨by decide +kernel, by decide +kernel, by decide +kernel⟩
theorem tb_166 : m_tab 166 = some M_166 := rfl
theorem nn_166 : m_nn M_166 1 := by unfold m_nn; exact ⟨by decide +kernel, by decide +kernel, by decide +kernel⟩
theorem tb_167 : m_tab 167 = some M_167 := rfl
theorem nn_167 : m_nn M_167 0 := by unfold m_nn; exact ⟨by decide +kernel, by decide +kernel, by decide +kernel⟩
theorem tb_168 : m_tab 168 = some M_168 := rfl
theorem nn_168 : m_nn M_168 1 := by unfold m_nn; exact ⟨by decide +kernel, by decide +kernel, by decide +kernel⟩
theorem tb_169 : m_tab 169 = some M_169 := rfl
theorem nn_169 : m_nn M_169 1 := by unfold m_nn; exact ⟨by decide +kernel, by decide +kernel, by decide +kernel⟩
theorem tb_170 : m_tab 170 = some M_170 := rfl
theorem nn_170 : m_nn M_170 0 := by unfold m_nn; exact ⟨by decide +kernel, by decide +kernel, by decide +kernel⟩
theorem tb_171 : m_tab 171 = some M_171 := rfl
theorem nn_171 : m_nn M_171 0 := by unfold m_nn; exact ⟨by decide +kernel, by decide +kernel, by decide +kernel⟩
theorem tb_172 : m_tab 172 = some M_172 := rfl
theorem nn_172 : m_nn M_172 1 := by unfold m_nn; exact ⟨by decide +kernel, by decide +kernel, by decide +kernel⟩
theorem tb_173 : m_tab 173 = some M_173 := rfl
theorem nn_173 : m_nn M_173 0 := by unfold m_nn; exact ⟨by decide +kernel, by decide +kernel, by decide +kernel⟩
theorem tb_174 : m_tab 174 = some M_174 := rfl
theorem nn_174 : m_nn M_174 0 := by unfold m_nn; exact ⟨by decide +kernel, by decide +kernel, by decide +kernel⟩
theorem tb_175 : m_tab 175 = some M_175 := rfl
theorem nn_175 : m_nn M_175 0 := by unfold m_nn; exact ⟨by decide +kernel, by decide +kernel, by decide +kernel⟩
theorem tb_176 : m_tab 176 = some M_176 := rfl
theorem nn_176 : m_nn M_176 1 := by unfold m_nn; exact ⟨by decide +kernel, by decide +kernel, by decide +kernel⟩
theorem tb_177 : m_tab 177 = some M_177 := rfl
theorem nn_177 : m_nn M_177 1 := by unfold m_nn; exact ⟨by decide +kernel, by decide +kernel, by decide +kernel⟩
theorem tb_178 : m_tab 178 = some M_178 := rfl
theorem nn_178 : m_nn M_178 4 := by unfold m_nn; exact ⟨by decide +kernel, by decide +kernel, by decide +kernel⟩
theorem tb_179 : m_tab 179 = some M_179 := rfl
theorem nn_179 : m_nn M_179 3 := by unfold m_nn; exact ⟨by decide +kernel, by decide +kernel, by decide +kernel⟩
theorem tb_180 : m_tab 180 = some M_180 := rfl
theorem nn_180 : m_nn M_180 4 := by unfold m_nn; exact ⟨by decide +kernel, by decide +kernel, by decide +kernel⟩
theorem tb_181 : m_tab 181 = some M_181 := rfl
theorem nn_181 : m_nn M_181 2 := by unfold m_nn; exact ⟨by decide +kernel, by decide +kernel, by decide +kernel⟩
theorem tb_182 : m_tab 182 = some M_182 := rfl
theorem nn_182 : m_nn M_182 3 := by unfold m_nn; exact ⟨by decide +kernel, by decide +kernel, by decide +kernel⟩
theorem tb_183 : m_tab 183 = some M_183 := rfl
theorem nn_183 : m_nn M_183 0 := by unfold m_nn; exact ⟨by decide +kernel, by decide +kernel, by decide +kernel⟩
theorem tb_184 : m_tab 184 = some M_184 := rfl
theorem nn_184 : m_nn M_184 0 := by unfold m_nn; exact ⟨by decide +kernel, by decide +kernel, by decide +kernel⟩
theorem tb_185 : m_tab 185 = some M_185 := rfl
theorem nn_185 : m_nn M_185 2 := by unfold m_nn; exact ⟨by decide +kernel, by decide +kernel, by decide +kernel⟩
theorem tb_186 : m_tab 186 = some M_186 := rfl
theorem nn_186 : m_nn M_186 3 := by unfold m_nn; exact ⟨by decide +kernel, by decide +kernel, by decide +kernel⟩
theorem tb_187 : m_tab 187 = some M_187 := rfl
theorem nn_187 : m_nn M_187 3 := by unfold m_nn; exact ⟨by decide +kernel, by decide +kernel, by decide +kernel⟩
theorem tb_188 : m_tab 188 = some M_188 := rfl
theorem nn_188 : m_nn M_188 1 := by unfold m_nn; exact ⟨by decide +kernel, by decide +kernel, by decide +kernel⟩
theorem tb_189 : m_tab 189 = some M_189 := rfl
theorem nn_189 : m_nn M_189 0 := by unfold m_nn; exact ⟨by decide +kernel, by decide +kernel, by decide +kernel⟩
theorem tb_190 : m_tab 190 = some M_190 := rfl
theorem nn_190 : m_nn M_190 0 := by unfold m_nn; exact ⟨by decide +kernel, by decide +kernel, by decide +kernel⟩
theorem tb_191 : m_tab 191 = some M_191 := rfl
theorem nn_191 : m_nn M_191 2 := by unfold m_nn; exact ⟨by decide +kernel, by decide +kernel, by decide +kernel⟩
theorem tb_192 : m_tab 192 = some M_192 := rfl
theorem nn_192 : m_nn M_192 2 := by unfold m_nn; exact ⟨by decide +kernel, by decide +kernel, by decide +kernel⟩
theorem tb_193 : m_tab 193 = some M_193 := rfl
theorem nn_193 : m_nn M_193 2 := by unfold m_nn; exact ⟨by decide +kernel, by decide +kernel, by decide +kernel⟩
theorem tb_194 : m_tab 194 = some M_194 := rfl
theorem nn_194 : m_nn M_194 2 := by unfold m_nn; exact ⟨by decide +kernel, by decide +kernel, by decide +kernel⟩
theorem tb_195 : m_tab 195 = some M_195 := rfl
theorem nn_195 : m_nn M_195 1 := by unfold m_nn; exact ⟨by decide +kernel, by decide +kernel, by decide +kernel⟩
theorem tb_196 : m_tab 196 = some M_196 := rfl
theorem nn_196 : m_nn M_196 0 := by unfold m_nn; exact ⟨by decide +kernel, by decide +kernel, by decide +kernel⟩
theorem tb_197 : m_tab 197 = some M_197 := rfl
theorem nn_197 : m_nn M_197 1 := by unfold m_nn; exact ⟨by decide +kernel, by decide +kernel, by decide +kernel⟩
theorem tb_198 : m_tab 198 = some M_198 := rfl
theorem nn_198 : m_nn M_198 3 := by unfold m_nn; exact ⟨by decide +kernel, by decide +kernel, by decide +kernel⟩
theorem tb_199 : m_tab 199 = some M_199 := rfl
theorem nn_199 : m_nn M_199 0 := by unfold m_nn; exact ⟨by decide +kernel, by decide +kernel, by decide +kernel⟩
theorem tb_200 : m_tab 200 = some M_200 := rfl
theorem nn_200 : m_nn M_200 1 := by unfold m_nn; exact ⟨by decide +kernel, by decide +kernel, by decide +kernel⟩
theorem tb_201 : m_tab 201 = some M_201 := rfl
theorem nn_201 : m_nn M_201 1 := by unfold m_nn; exact ⟨by decide +kernel, by decide +kernel, by decide +kernel⟩
theorem tb_202 : m_tab 202 = some M_202 := rfl
theorem nn_202 : m_nn M_202 1 := by unfold m_nn; exact ⟨by decide +kernel, by decide +kernel, by decide +kernel⟩
theorem tb_203 : m_tab 203 = some M_203 := rfl
theorem nn_203 : m_nn M_203 2 := by unfold m_nn; exact ⟨by decide +kernel, by decide +kernel, by decide +kernel⟩
theorem tb_204 : m_tab 204 = some M_204 := rfl
theorem nn_204 : m_nn M_204 0 := by unfold m_nn; exact ⟨by decide +kernel, by decide +kernel, by decide +kernel⟩
theorem tb_205 : m_tab 205 = some M_205 := rfl
theorem nn_205 : m_nn M_205 1 := by unfold m_nn; exact ⟨by decide +kernel, by decide +kernel, by decide +kernel⟩
theorem tb_206 : m_tab 206 = some M_206 := rfl
theorem nn_206 : m_nn M_206 1 := by unfold m_nn; exact ⟨by decide +kernel, by decide +kernel, by decide +kernel⟩
theorem tb_207 : m_tab 207 = some M_207 := rfl
theorem nn_207 : m_nn M_207 1 := by unfold m_nn; exact ⟨by decide +kernel, by decide +kernel, by decide +kernel⟩
theorem tb_208 : m_tab 208 = some M_208 := rfl
theorem nn_208 : m_nn M_208 2 := by unfold m_nn; exact ⟨by decide +kernel, by decide +kernel, by decide +kernel⟩
theorem tb_209 : m_tab 209 = some M_209 := rfl
theorem nn_209 : m_nn M_209 1 := by unfold m_nn; exact ⟨by decide +kernel, by decide +kernel, by decide +kernel⟩
theorem tb_210 : m_tab 210 = some M_210 := rfl
theorem nn_210 : m_nn M_210 0 := by unfold m_nn; exact ⟨by decide +kernel, by decide +kernel, by decide +kernel⟩
theorem tb_211 : m_tab 211 = some M_211 := rfl
theorem nn_211 : m_nn M_211 1 := by unfold m_nn; exact ⟨by decide +kernel, by decide +kernel, by decide +kernel⟩
theorem tb_212 : m_tab 212 = some M_212 := rfl
theorem nn_212 : m_nn M_212 1 := by unfold m_nn; exact ⟨by decide +kernel, by decide +kernel, by decide +kernel⟩
theorem tb_213 : m_tab 213 = some M_213 := rfl
theorem nn_213 : m_nn M_213 1 := by unfold m_nn; exact ⟨by decide +kernel, by decide +kernel, by decide +kernel⟩
theorem tb_214 : m_tab 214 = some M_214 := rfl
theorem nn_214 : m_nn M_214 2 := by unfold m_nn; exact ⟨by decide +kernel, by decide +kernel, by decide +kernel⟩
theorem tb_215 : m_tab 215 = some M_215 := rfl
theorem nn_215 : m_nn M_215 2 := by unfold m_nn; exact ⟨by decide +kernel, by decide +kernel, by decide +kernel⟩
theorem tb_216 : m_tab 216 = some M_216 := rfl
theorem nn_216 : m_nn M_216 0 := by unfold m_nn; exact ⟨by decide +kernel, by decide +kernel, by decide +kernel⟩
theorem tb_217 : m_tab 217 = some M_217 := rfl
theorem nn_217 : m_nn M_217 0 := by unfold m_nn; exact ⟨by decide +kernel, by decide +kernel, by decide +kernel⟩
theorem tb_218 : m_tab 218 = some M_218 := rfl
theorem nn_218 : m_nn M_218 1 := by unfold m_nn; exact ⟨by decide +kernel, by decide +kernel, by decide +kernel⟩
theorem tb_219 : m_tab 219 = some M_219 := rfl
theorem nn_219 : m_nn M_219 1 := by unfold m_nn; exact ⟨by decide +kernel, by decide +kernel, by decide +kernel⟩
theorem tb_220 : m_tab 220 = some M_220 := rfl
theorem nn_220 : m_nn M_220 3 := by unfold m_nn; exact ⟨by decide +kernel, by decide +kernel, by decide +kernel⟩
theorem tb_221 : m_tab 221 = some M_221 := rfl
theorem nn_221 : m_nn M_221 3 := by unfold m_nn; exact ⟨by decide +kernel, by decide +kernel, by decide +kernel⟩
theorem tb_222 : m_tab 222 = some M_222 := rfl
theorem nn_222 : m_nn M_222 3 := by unfold m_nn; exact ⟨by decide +kernel, by decide +kernel, by decide +kernel⟩
theorem tb_223 : m_tab 223 = some M_223 := rfl
theorem nn_223 : m_nn M_223 5 := by unfold m_nn; exact ⟨by decide +kernel, by decide +kernel, by decide +kernel⟩
theorem tb_224 : m_tab 224 = some M_224 := rfl
theorem nn_224 : m_nn M_224 4 := by unfold m_nn; exact ⟨by decide +kernel, by decide +kernel, by decide +kernel⟩
theorem tb_225 : m_tab 225 = some M_225 := rfl
theorem nn_225 : m_nn M_225 1 := by unfold m_nn; exact ⟨by decide +kernel, by decide +kernel, by decide +kernel⟩
theorem df_0 : ∀ j, j < 2 → defaultValue (tyX0 j) = vp_V (m_df ([.inl 0, .inl 0] : List m_V)) j := by decide +kernel
theorem dd_0 : ∀ v ∈ ([.inl 0, .inl 0] : List m_V), v = .inl 0 ∨ v = .inr (.inl none) := by decide
theorem df_1 : ∀ j, j < 2 → defaultValue (tyX1 j) = vp_V (m_df ([.inl 0, .inl 0] : List m_V)) j := by decide +kernel
theorem dd_1 : ∀ v ∈ ([.inl 0, .inl 0] : List m_V), v = .inl 0 ∨ v = .inr (.inl none) := by decide
theorem df_2 : ∀ j, j < 2 → defaultValue (tyX2 j) = vp_V (m_df ([.inl 0, .inl 0] : List m_V)) j := by decide +kernel
theorem dd_2 : ∀ v ∈ ([.inl 0, .inl 0] : List m_V), v = .inl 0 ∨ v = .inr (.inl none) := by decide
theorem df_3 : ∀ j, j < 2 → defaultValue (tyX3 j) = vp_V (m_df ([.inl 0, .inl 0] : List m_V)) j := by decide +kernel
theorem dd_3 : ∀ v ∈ ([.inl 0, .inl 0] : List m_V), v = .inl 0 ∨ v = .inr (.inl none) := by decide
theorem df_4 : ∀ j, j < 9 → defaultValue (tyX4 j) = vp_V (m_df ([.inr (.inl none), .inl 0, .inr (.inl none), .inr (.inl none), .inl 0, .inl 0, .inl 0, .inr (.inl none), .inl 0] : List m_V)) j := by decide +kernel
theorem dd_4 : ∀ v ∈ ([.inr (.inl none), .inl 0, .inr (.inl none), .inr (.inl none), .inl 0, .inl 0, .inl 0, .inr (.inl none), .inl 0] : List m_V), v = .inl 0 ∨ v = .inr (.inl none) := by decide
theorem df_5 : ∀ j, j < 12 → defaultValue (tyX5 j) = vp_V (m_df ([.inr (.inl none), .inr (.inl none), .inl 0, .inr (.inl none), .inl 0, .inr (.inl none), .inl 0, .inr (.inl none), .inr (.inl none), .inr (.inl none), .inr (.inl none), .inl 0] : List m_V)) j := by decide +kernel
theorem dd_5 : ∀ v ∈ ([.inr (.inl none), .inr (.inl none), .inl 0, .inr (.inl none), .inl 0, .inr (.inl none), .inl 0, .inr (.inl none), .inr (.inl none), .inr (.inl none), .inr (.inl none), .inl 0] : List m_V), v = .inl 0 ∨ v = .inr (.inl none) := by decide
theorem df_6 : ∀ j, j < 2 → defaultValue (tyX6 j) = vp_V (m_df ([.inl 0, .inr (.inl none)] : List m_V)) j := by decide +kernel
theorem dd_6 : ∀ v ∈ ([.inl 0, .inr (.inl none)] : List m_V), v = .inl 0 ∨ v = .inr (.inl none) := by decide
theorem df_7 : ∀ j, j < 2 → defaultValue (tyX7 j) = vp_V (m_df ([.inl 0, .inl 0] : List m_V)) j := by decide +kernel
theorem dd_7 : ∀ v ∈ ([.inl 0, .inl 0] : List m_V), v = .inl 0 ∨ v = .inr (.inl none) := by decide
theorem df_8 : ∀ j, j < 2 → defaultValue (tyX8 j) = vp_V (m_df ([.inl 0, .inl 0] : List m_V)) j := by decide +kernel
theorem dd_8 : ∀ v ∈ ([.inl 0, .inl 0] : List m_V), v = .inl 0 ∨ v = .inr (.inl none) := by decide
theorem df_9 : ∀ j, j < 4 → defaultValue (tyX9 j) = vp_V (m_df ([.inr (.inl none), .inl 0, .inl 0, .inr (.inl none)] : List m_V)) j := by decide +kernel
theorem dd_9 : ∀ v ∈ ([.inr (.inl none), .inl 0, .inl 0, .inr (.inl none)] : List m_V), v = .inl 0 ∨ v = .inr (.inl none) := by decide
theorem df_10 : ∀ j, j < 9 → defaultValue (tyX10 j) = vp_V (m_df ([.inl 0, .inl 0, .inl 0, .inr (.inl none), .inr (.inl none), .inr (.inl none), .inl 0, .inl 0, .inl 0] : List m_V)) j := by decide +kernel
theorem dd_10 : ∀ v ∈ ([.inl 0, .inl 0, .inl 0, .inr (.inl none), .inr (.inl none), .inr (.inl none), .inl 0, .inl 0, .inl 0] : List m_V), v = .inl 0 ∨ v = .inr (.inl none) := by decide
theorem df_11 : ∀ j, j < 13 → defaultValue (tyX11 j) = vp_V (m_df ([.inr (.inl none), .inr (.inl none), .inl 0, .inr (.inl none), .inr (.inl none), .inl 0, .inr (.inl none), .inr (.inl none), .inl 0, .inr (.inl none), .inr (.inl none), .inr (.inl none), .inr (.inl none)] : List m_V)) j := by decide +kernel
theorem dd_11 : ∀ v ∈ ([.inr (.inl none), .inr (.inl none), .inl 0, .inr (.inl none), .inr (.inl none), .inl 0, .inr (.inl none), .inr (.inl none), .inl 0, .inr (.inl none), .inr (.inl none), .inr (.inl none), .inr (.inl none)] : List m_V), v = .inl 0 ∨ v = .inr (.inl none) := by decide
theorem df_12 : ∀ j, j < 42 → defaultValue (tyX12 j) = vp_V (m_df ([.inr (.inl none), .inr (.inl none), .inr (.inl none), .inr (.inl none), .inr (.inl none), .inl 0, .inl 0, .inl 0, .inl 0, .inl 0, .inl 0, .inl 0, .inr (.inl none), .inr (.inl none), .inr (.inl none), .inr (.inl none), .inr (.inl none), .inr (.inl none), .inl 0, .inl 0, .inl 0, .inl 0, .inl 0, .inl 0, .inl 0, .inl 0, .inl 0, .inr (.inl none), .inr (.inl none), .inr (.inl none), .inr (.inl none), .inr (.inl none), .inr (.inl none), .inr (.inl none), .inr (.inl none), .inl 0, .inl 0, .inl 0, .inr (.inl none), .inr (.inl none), .inr (.inl none), .inr (.inl none)] : List m_V)) j := by decide +kernel
theorem dd_12 : ∀ v ∈ ([.inr (.inl none), .inr (.inl none), .inr (.inl none), .inr (.inl none), .inr (.inl none), .inl 0, .inl 0, .inl 0, .inl 0, .inl 0, .inl 0, .inl 0, .inr (.inl none), .inr (.inl none), .inr (.inl none), .inr (.inl none), .inr (.inl none), .inr (.inl none), .inl 0, .inl 0, .inl 0, .inl 0, .inl 0, .inl 0, .inl 0, .inl 0, .inl 0, .inr (.inl none), .inr (.inl none), .inr (.inl none), .inr (.inl none), .inr (.inl none), .inr (.inl none), .inr (.inl none), .inr (.inl none), .inl 0, .inl 0, .inl 0, .inr (.inl none), .inr (.inl none), .inr (.inl none), .inr (.inl none)] : List m_V), v = .inl 0 ∨ v = .inr (.inl none) := by decide
theorem as_3 {Γ : m_G} : m_as Γ "NeverLike$Painter" (m_fam [0, 1, 2, 3, 7, 8]) := hcf (List.forall_mem_cons.mpr ⟨⟨_, cl_0, Or.inr (fun _ _ h => h.2.2.2.2.2.2.2.2.2.2.1 ("NeverLike$Green", "NeverLike$Painter") (by decide +kernel))⟩, List.forall_mem_cons.mpr ⟨⟨_, cl_1, Or.inr (fun _ _ h => h.2.2.2.2.2.2.2.2.2.2.1 ("NeverLike$Moody", "NeverLike$Painter") (by decide +kernel))⟩, List.forall_mem_cons.mpr ⟨⟨_, cl_2, Or.inr (fun _ _ h => h.2.2.2.2.2.2.2.2.2.2.1 ("NeverLike$Old", "NeverLike$Painter") (by decide +kernel))⟩, List.forall_mem_cons.mpr ⟨⟨_, cl_3, Or.inl rfl⟩, List.forall_mem_cons.mpr ⟨⟨_, cl_7, Or.inr (fun _ _ h => h.2.2.2.2.2.2.2.2.2.2.1 ("NeverLike$Shy", "NeverLike$Painter") (by decide +kernel))⟩, List.forall_mem_cons.mpr ⟨⟨_, cl_8, Or.inr (fun _ _ h => h.2.2.2.2.2.2.2.2.2.2.1 ("NeverLike$Steep", "NeverLike$Painter") (by decide +kernel))⟩, fun _ h => absurd h List.not_mem_nil⟩⟩⟩⟩⟩⟩)
theorem as_9 {Γ : m_G} : m_as Γ "NeverLike$Text" (Nat.beq 9) := hc1 ⟨_, cl_9, Or.inl rfl⟩
theorem as_6 {Γ : m_G} : m_as Γ "NeverLike$Sheet" (Nat.beq 6) := hc1 ⟨_, cl_6, Or.inl rfl⟩
theorem iy_8 {Γ : m_G} : ∀ c, m_any [1, 8] c = true → ∃ q : vw_C, vwCl[c]? = some q ∧ (q.1 = "NeverLike$Steep" ∨ ∀ (A : Nat → Prop) (s : State), m_Ev Γ A s → va_Nw (.castable q.1 "NeverLike$Steep") s) := hca (List.forall_mem_cons.mpr ⟨⟨_, cl_1, Or.inr (fun _ _ h => h.2.2.2.2.2.2.2.2.2.2.1 ("NeverLike$Moody", "NeverLike$Steep") (by decide +kernel))⟩, List.forall_mem_cons.mpr ⟨⟨_, cl_8, Or.inl rfl⟩, fun _ h => absurd h List.not_mem_nil⟩⟩)
theorem in_no_8 {Γ : m_G} : ∀ c, m_any [0, 2, 3, 7] c = true → ∃ q : vw_C, vwCl[c]? = some q ∧ ∀ (A : Nat → Prop) (s : State), m_Ev Γ A s → va_Nc q.1 "NeverLike$Steep" s := hca (List.forall_mem_cons.mpr ⟨⟨_, cl_0, fun _ _ h => h.2.2.2.2.2.2.2.2.2.2.2 ("NeverLike$Green", "NeverLike$Steep") (by decide +kernel)⟩, List.forall_mem_cons.mpr ⟨⟨_, cl_2, fun _ _ h => h.2.2.2.2.2.2.2.2.2.2.2 ("NeverLike$Old", "NeverLike$Steep") (by decide +kernel)⟩, List.forall_mem_cons.mpr ⟨⟨_, cl_3, fun _ _ h => h.2.2.2.2.2.2.2.2.2.2.2 ("NeverLike$Painter", "NeverLike$Steep") (by decide +kernel)⟩, List.forall_mem_cons.mpr ⟨⟨_, cl_7, fun _ _ h => h.2.2.2.2.2.2.2.2.2.2.2 ("NeverLike$Shy", "NeverLike$Steep") (by decide +kernel)⟩, fun _ h => absurd h List.not_mem_nil⟩⟩⟩⟩)
theorem iy_7 {Γ : m_G} : ∀ c, m_any [0, 2, 7] c = true → ∃ q : vw_C, vwCl[c]? = some q ∧ (q.1 = "NeverLike$Shy" ∨ ∀ (A : Nat → Prop) (s : State), m_Ev Γ A s → va_Nw (.castable q.1 "NeverLike$Shy") s) := hca (List.forall_mem_cons.mpr ⟨⟨_, cl_0, Or.inr (fun _ _ h => h.2.2.2.2.2.2.2.2.2.2.1 ("NeverLike$Green", "NeverLike$Shy") (by decide +kernel))⟩, List.forall_mem_cons.mpr ⟨⟨_, cl_2, Or.inr (fun _ _ h => h.2.2.2.2.2.2.2.2.2.2.1 ("NeverLike$Old", "NeverLike$Shy") (by decide +kernel))⟩, List.forall_mem_cons.mpr ⟨⟨_, cl_7, Or.inl rfl⟩, fun _ h => absurd h List.not_mem_nil⟩⟩⟩)
theorem in_no_7 {Γ : m_G} : ∀ c, m_any [1, 3, 8] c = true → ∃ q : vw_C, vwCl[c]? = some q ∧ ∀ (A : Nat → Prop) (s : State), m_Ev Γ A s → va_Nc q.1 "NeverLike$Shy" s := hca (List.forall_mem_cons.mpr ⟨⟨_, cl_1, fun _ _ h => h.2.2.2.2.2.2.2.2.2.2.2 ("NeverLike$Moody", "NeverLike$Shy") (by decide +kernel)⟩, List.forall_mem_cons.mpr ⟨⟨_, cl_3, fun _ _ h => h.2.2.2.2.2.2.2.2.2.2.2 ("NeverLike$Painter", "NeverLike$Shy") (by decide +kernel)⟩, List.forall_mem_cons.mpr ⟨⟨_, cl_8, fun _ _ h => h.2.2.2.2.2.2.2.2.2.2.2 ("NeverLike$Steep", "NeverLike$Shy") (by decide +kernel)⟩, fun _ h => absurd h List.not_mem_nil⟩⟩⟩)
theorem iy_1 {Γ : m_G} : ∀ c, m_any [1] c = true → ∃ q : vw_C, vwCl[c]? = some q ∧ (q.1 = "NeverLike$Moody" ∨ ∀ (A : Nat → Prop) (s : State), m_Ev Γ A s → va_Nw (.castable q.1 "NeverLike$Moody") s) := hca (List.forall_mem_cons.mpr ⟨⟨_, cl_1, Or.inl rfl⟩, fun _ h => absurd h List.not_mem_nil⟩)
theorem in_no_1 {Γ : m_G} : ∀ c, m_any [0, 2, 3, 7, 8] c = true → ∃ q : vw_C, vwCl[c]? = some q ∧ ∀ (A : Nat → Prop) (s : State), m_Ev Γ A s → va_Nc q.1 "NeverLike$Moody" s := hca (List.forall_mem_cons.mpr ⟨⟨_, cl_0, fun _ _ h => h.2.2.2.2.2.2.2.2.2.2.2 ("NeverLike$Green", "NeverLike$Moody") (by decide +kernel)⟩, List.forall_mem_cons.mpr ⟨⟨_, cl_2, fun _ _ h => h.2.2.2.2.2.2.2.2.2.2.2 ("NeverLike$Old", "NeverLike$Moody") (by decide +kernel)⟩, List.forall_mem_cons.mpr ⟨⟨_, cl_3, fun _ _ h => h.2.2.2.2.2.2.2.2.2.2.2 ("NeverLike$Painter", "NeverLike$Moody") (by decide +kernel)⟩, List.forall_mem_cons.mpr ⟨⟨_, cl_7, fun _ _ h => h.2.2.2.2.2.2.2.2.2.2.2 ("NeverLike$Shy", "NeverLike$Moody") (by decide +kernel)⟩, List.forall_mem_cons.mpr ⟨⟨_, cl_8, fun _ _ h => h.2.2.2.2.2.2.2.2.2.2.2 ("NeverLike$Steep", "NeverLike$Moody") (by decide +kernel)⟩, fun _ h => absurd h List.not_mem_nil⟩⟩⟩⟩⟩)
theorem iy_2 {Γ : m_G} : ∀ c, m_any [2] c = true → ∃ q : vw_C, vwCl[c]? = some q ∧ (q.1 = "NeverLike$Old" ∨ ∀ (A : Nat → Prop) (s : State), m_Ev Γ A s → va_Nw (.castable q.1 "NeverLike$Old") s) := hca (List.forall_mem_cons.mpr ⟨⟨_, cl_2, Or.inl rfl⟩, fun _ h => absurd h List.not_mem_nil⟩)
theorem in_no_2 {Γ : m_G} : ∀ c, m_any [0, 1, 3, 7, 8] c = true → ∃ q : vw_C, vwCl[c]? = some q ∧ ∀ (A : Nat → Prop) (s : State), m_Ev Γ A s → va_Nc q.1 "NeverLike$Old" s := hca (List.forall_mem_cons.mpr ⟨⟨_, cl_0, fun _ _ h => h.2.2.2.2.2.2.2.2.2.2.2 ("NeverLike$Green", "NeverLike$Old") (by decide +kernel)⟩, List.forall_mem_cons.mpr ⟨⟨_, cl_1, fun _ _ h => h.2.2.2.2.2.2.2.2.2.2.2 ("NeverLike$Moody", "NeverLike$Old") (by decide +kernel)⟩, List.forall_mem_cons.mpr ⟨⟨_, cl_3, fun _ _ h => h.2.2.2.2.2.2.2.2.2.2.2 ("NeverLike$Painter", "NeverLike$Old") (by decide +kernel)⟩, List.forall_mem_cons.mpr ⟨⟨_, cl_7, fun _ _ h => h.2.2.2.2.2.2.2.2.2.2.2 ("NeverLike$Shy", "NeverLike$Old") (by decide +kernel)⟩, List.forall_mem_cons.mpr ⟨⟨_, cl_8, fun _ _ h => h.2.2.2.2.2.2.2.2.2.2.2 ("NeverLike$Steep", "NeverLike$Old") (by decide +kernel)⟩, fun _ h => absurd h List.not_mem_nil⟩⟩⟩⟩⟩)
theorem iy_0 {Γ : m_G} : ∀ c, m_any [0] c = true → ∃ q : vw_C, vwCl[c]? = some q ∧ (q.1 = "NeverLike$Green" ∨ ∀ (A : Nat → Prop) (s : State), m_Ev Γ A s → va_Nw (.castable q.1 "NeverLike$Green") s) := hca (List.forall_mem_cons.mpr ⟨⟨_, cl_0, Or.inl rfl⟩, fun _ h => absurd h List.not_mem_nil⟩)
theorem in_no_0 {Γ : m_G} : ∀ c, m_any [1, 2, 3, 7, 8] c = true → ∃ q : vw_C, vwCl[c]? = some q ∧ ∀ (A : Nat → Prop) (s : State), m_Ev Γ A s → va_Nc q.1 "NeverLike$Green" s := hca (List.forall_mem_cons.mpr ⟨⟨_, cl_1, fun _ _ h => h.2.2.2.2.2.2.2.2.2.2.2 ("NeverLike$Moody", "NeverLike$Green") (by decide +kernel)⟩, List.forall_mem_cons.mpr ⟨⟨_, cl_2, fun _ _ h => h.2.2.2.2.2.2.2.2.2.2.2 ("NeverLike$Old", "NeverLike$Green") (by decide +kernel)⟩, List.forall_mem_cons.mpr ⟨⟨_, cl_3, fun _ _ h => h.2.2.2.2.2.2.2.2.2.2.2 ("NeverLike$Painter", "NeverLike$Green") (by decide +kernel)⟩, List.forall_mem_cons.mpr ⟨⟨_, cl_7, fun _ _ h => h.2.2.2.2.2.2.2.2.2.2.2 ("NeverLike$Shy", "NeverLike$Green") (by decide +kernel)⟩, List.forall_mem_cons.mpr ⟨⟨_, cl_8, fun _ _ h => h.2.2.2.2.2.2.2.2.2.2.2 ("NeverLike$Steep", "NeverLike$Green") (by decide +kernel)⟩, fun _ h => absurd h List.not_mem_nil⟩⟩⟩⟩⟩)
theorem fo_0 : m_fo 1 0 "NeverLike$Moody" "number" "I" := ⟨_, _, _, cl_1, in_1, by decide, rfl, rfl, Or.inr w_461⟩
theorem pd_0 : parseFieldDescriptor "I" = some .int := by decide +kernel
theorem fo_1 : m_fo 8 1 "NeverLike$Painter" "plainCosts" "I" := ⟨_, _, _, cl_8, in_8, by decide, rfl, rfl, Or.inl rfl⟩
theorem fo_2 : m_fo 7 1 "NeverLike$Painter" "plainCosts" "I" := ⟨_, _, _, cl_7, in_7, by decide, rfl, rfl, Or.inl rfl⟩
theorem fo_3 : m_fo 3 1 "NeverLike$Painter" "plainCosts" "I" := ⟨_, _, _, cl_3, in_3, by decide, rfl, rfl, Or.inl rfl⟩
theorem fo_4 : m_fo 2 1 "NeverLike$Painter" "plainCosts" "I" := ⟨_, _, _, cl_2, in_2, by decide, rfl, rfl, Or.inl rfl⟩
theorem fo_5 : m_fo 1 1 "NeverLike$Painter" "plainCosts" "I" := ⟨_, _, _, cl_1, in_1, by decide, rfl, rfl, Or.inl rfl⟩
theorem fo_6 : m_fo 0 1 "NeverLike$Painter" "plainCosts" "I" := ⟨_, _, _, cl_0, in_0, by decide, rfl, rfl, Or.inl rfl⟩
theorem pd_1 : parseFieldDescriptor "[I" = some (.array .int) := by decide +kernel
theorem fo_7 : m_fo 4 1 "NeverLike$Reader" "size" "I" := ⟨_, _, _, cl_4, in_4, by decide, rfl, rfl, Or.inl rfl⟩
theorem fo_8 : m_fo 4 0 "NeverLike$Reader" "tape" "[I" := ⟨_, _, _, cl_4, in_4, by decide, rfl, rfl, Or.inl rfl⟩
theorem fo_9 : m_fo 4 8 "NeverLike$Reader" "written" "I" := ⟨_, _, _, cl_4, in_4, by decide, rfl, rfl, Or.inl rfl⟩
theorem fo_10 : m_fo 4 7 "NeverLike$Reader" "code" "[I" := ⟨_, _, _, cl_4, in_4, by decide, rfl, rfl, Or.inl rfl⟩
theorem fo_11 : m_fo 4 6 "NeverLike$Reader" "fault" "I" := ⟨_, _, _, cl_4, in_4, by decide, rfl, rfl, Or.inl rfl⟩
theorem fo_12 : m_fo 4 5 "NeverLike$Reader" "token" "I" := ⟨_, _, _, cl_4, in_4, by decide, rfl, rfl, Or.inl rfl⟩
theorem fo_13 : m_fo 4 2 "NeverLike$Reader" "tokens" "[I" := ⟨_, _, _, cl_4, in_4, by decide, rfl, rfl, Or.inl rfl⟩
theorem fo_14 : m_fo 4 4 "NeverLike$Reader" "at" "I" := ⟨_, _, _, cl_4, in_4, by decide, rfl, rfl, Or.inl rfl⟩
theorem fo_15 : m_fo 4 3 "NeverLike$Reader" "places" "[I" := ⟨_, _, _, cl_4, in_4, by decide, rfl, rfl, Or.inl rfl⟩
theorem pd_2 : parseFieldDescriptor "LNeverLike$Town;" = some (.object "NeverLike$Town") := by decide +kernel
theorem pd_3 : parseFieldDescriptor "[Z" = some (.array .boolean) := by decide +kernel
theorem pd_4 : parseFieldDescriptor "Z" = some .boolean := by decide +kernel
theorem fo_16 : m_fo 5 1 "NeverLike$Search" "prices" "[I" := ⟨_, _, _, cl_5, in_5, by decide, rfl, rfl, Or.inl rfl⟩
theorem fo_17 : m_fo 5 0 "NeverLike$Search" "town" "LNeverLike$Town;" := ⟨_, _, _, cl_5, in_5, by decide, rfl, rfl, Or.inl rfl⟩
theorem fo_18 : m_fo 5 4 "NeverLike$Search" "start" "I" := ⟨_, _, _, cl_5, in_5, by decide, rfl, rfl, Or.inl rfl⟩
theorem fo_19 : m_fo 5 7 "NeverLike$Search" "steps" "[I" := ⟨_, _, _, cl_5, in_5, by decide, rfl, rfl, Or.inl rfl⟩
theorem fo_20 : m_fo 10 2 "NeverLike$Town" "towns" "I" := ⟨_, _, _, cl_10, in_10, by decide, rfl, rfl, Or.inl rfl⟩
theorem fo_21 : m_fo 5 5 "NeverLike$Search" "row" "[I" := ⟨_, _, _, cl_5, in_5, by decide, rfl, rfl, Or.inl rfl⟩
theorem fo_22 : m_fo 5 6 "NeverLike$Search" "found" "I" := ⟨_, _, _, cl_5, in_5, by decide, rfl, rfl, Or.inl rfl⟩
theorem fo_23 : m_fo 5 8 "NeverLike$Search" "ahead" "[I" := ⟨_, _, _, cl_5, in_5, by decide, rfl, rfl, Or.inl rfl⟩
theorem fo_24 : m_fo 10 1 "NeverLike$Town" "colours" "I" := ⟨_, _, _, cl_10, in_10, by decide, rfl, rfl, Or.inl rfl⟩
theorem fo_25 : m_fo 5 9 "NeverLike$Search" "cost" "[I" := ⟨_, _, _, cl_5, in_5, by decide, rfl, rfl, Or.inl rfl⟩
theorem fo_26 : m_fo 5 3 "NeverLike$Search" "colour" "[I" := ⟨_, _, _, cl_5, in_5, by decide, rfl, rfl, Or.inl rfl⟩
theorem fo_27 : m_fo 10 3 "NeverLike$Town" "touching" "[I" := ⟨_, _, _, cl_10, in_10, by decide, rfl, rfl, Or.inl rfl⟩
theorem fo_28 : m_fo 10 0 "NeverLike$Town" "houses" "I" := ⟨_, _, _, cl_10, in_10, by decide, rfl, rfl, Or.inl rfl⟩
theorem fo_29 : m_fo 5 10 "NeverLike$Search" "cheapened" "[Z" := ⟨_, _, _, cl_5, in_5, by decide, rfl, rfl, Or.inl rfl⟩
theorem fo_30 : m_fo 5 11 "NeverLike$Search" "knowsCosts" "Z" := ⟨_, _, _, cl_5, in_5, by decide, rfl, rfl, Or.inl rfl⟩
theorem fo_31 : m_fo 10 4 "NeverLike$Town" "colour" "[I" := ⟨_, _, _, cl_10, in_10, by decide, rfl, rfl, Or.inl rfl⟩
theorem fo_32 : m_fo 10 5 "NeverLike$Town" "wish" "[I" := ⟨_, _, _, cl_10, in_10, by decide, rfl, rfl, Or.inl rfl⟩
theorem fo_33 : m_fo 6 1 "NeverLike$Sheet" "items" "[I" := ⟨_, _, _, cl_6, in_6, by decide, rfl, rfl, Or.inl rfl⟩
theorem fo_34 : m_fo 6 0 "NeverLike$Sheet" "sort" "I" := ⟨_, _, _, cl_6, in_6, by decide, rfl, rfl, Or.inl rfl⟩
theorem fo_35 : m_fo 7 1 "NeverLike$Shy" "plainCosts" "I" := ⟨_, _, _, cl_7, in_7, by decide, rfl, rfl, Or.inr w_467⟩
theorem fo_36 : m_fo 2 1 "NeverLike$Shy" "plainCosts" "I" := ⟨_, _, _, cl_2, in_2, by decide, rfl, rfl, Or.inr w_467⟩
theorem fo_37 : m_fo 0 1 "NeverLike$Shy" "plainCosts" "I" := ⟨_, _, _, cl_0, in_0, by decide, rfl, rfl, Or.inr w_467⟩
theorem fo_38 : m_fo 7 0 "NeverLike$Shy" "number" "I" := ⟨_, _, _, cl_7, in_7, by decide, rfl, rfl, Or.inr w_463⟩
theorem fo_39 : m_fo 2 0 "NeverLike$Shy" "number" "I" := ⟨_, _, _, cl_2, in_2, by decide, rfl, rfl, Or.inr w_463⟩
theorem fo_40 : m_fo 0 0 "NeverLike$Shy" "number" "I" := ⟨_, _, _, cl_0, in_0, by decide, rfl, rfl, Or.inr w_463⟩
theorem fo_41 : m_fo 8 1 "NeverLike$Steep" "plainCosts" "I" := ⟨_, _, _, cl_8, in_8, by decide, rfl, rfl, Or.inr w_469⟩
theorem fo_42 : m_fo 1 1 "NeverLike$Steep" "plainCosts" "I" := ⟨_, _, _, cl_1, in_1, by decide, rfl, rfl, Or.inr w_469⟩
theorem fo_43 : m_fo 9 1 "NeverLike$Text" "mayEnd" "I" := ⟨_, _, _, cl_9, in_9, by decide, rfl, rfl, Or.inl rfl⟩
theorem fo_44 : m_fo 9 2 "NeverLike$Text" "feeEnd" "I" := ⟨_, _, _, cl_9, in_9, by decide, rfl, rfl, Or.inl rfl⟩
theorem fo_45 : m_fo 9 0 "NeverLike$Text" "code" "[I" := ⟨_, _, _, cl_9, in_9, by decide, rfl, rfl, Or.inl rfl⟩
theorem fo_46 : m_fo 9 3 "NeverLike$Text" "stack" "[I" := ⟨_, _, _, cl_9, in_9, by decide, rfl, rfl, Or.inl rfl⟩
theorem fo_47 : m_fo 10 8 "NeverLike$Town" "rule" "I" := ⟨_, _, _, cl_10, in_10, by decide, rfl, rfl, Or.inl rfl⟩
theorem fo_48 : m_fo 10 7 "NeverLike$Town" "spring" "I" := ⟨_, _, _, cl_10, in_10, by decide, rfl, rfl, Or.inl rfl⟩
theorem fo_49 : m_fo 10 6 "NeverLike$Town" "keeps" "I" := ⟨_, _, _, cl_10, in_10, by decide, rfl, rfl, Or.inl rfl⟩
theorem fo_50 : m_fo 11 6 "NeverLike" "reader" "LNeverLike$Reader;" := ⟨_, _, _, cl_11, in_11, by decide, rfl, rfl, Or.inl rfl⟩
theorem fo_51 : m_fo 11 7 "NeverLike" "texts" "[LNeverLike$Text;" := ⟨_, _, _, cl_11, in_11, by decide, rfl, rfl, Or.inl rfl⟩
theorem pd_5 : parseFieldDescriptor "[LNeverLike$Sheet;" = some (.array (.object "NeverLike$Sheet")) := by decide +kernel
theorem pd_6 : parseFieldDescriptor "[LNeverLike$Text;" = some (.array (.object "NeverLike$Text")) := by decide +kernel
theorem pd_7 : parseFieldDescriptor "LNeverLike$Reader;" = some (.object "NeverLike$Reader") := by decide +kernel
theorem pd_8 : parseFieldDescriptor "[LNeverLike$Painter;" = some (.array (.object "NeverLike$Painter")) := by decide +kernel
theorem pd_9 : parseFieldDescriptor "LNeverLike$Search;" = some (.object "NeverLike$Search") := by decide +kernel
theorem fo_52 : m_fo 11 0 "NeverLike" "now" "LNeverLike$Town;" := ⟨_, _, _, cl_11, in_11, by decide, rfl, rfl, Or.inl rfl⟩
theorem fo_53 : m_fo 11 3 "NeverLike" "search" "LNeverLike$Search;" := ⟨_, _, _, cl_11, in_11, by decide, rfl, rfl, Or.inl rfl⟩
theorem fo_54 : m_fo 11 9 "NeverLike" "sheets" "[LNeverLike$Sheet;" := ⟨_, _, _, cl_11, in_11, by decide, rfl, rfl, Or.inl rfl⟩
theorem fo_55 : m_fo 11 5 "NeverLike" "painterCount" "I" := ⟨_, _, _, cl_11, in_11, by decide, rfl, rfl, Or.inl rfl⟩
theorem fo_56 : m_fo 11 4 "NeverLike" "painters" "[LNeverLike$Painter;" := ⟨_, _, _, cl_11, in_11, by decide, rfl, rfl, Or.inl rfl⟩
theorem fo_57 : m_fo 11 8 "NeverLike" "textCount" "I" := ⟨_, _, _, cl_11, in_11, by decide, rfl, rfl, Or.inl rfl⟩
theorem fo_58 : m_fo 11 12 "NeverLike" "trial" "[I" := ⟨_, _, _, cl_11, in_11, by decide, rfl, rfl, Or.inl rfl⟩
theorem fo_59 : m_fo 11 11 "NeverLike" "joys" "[I" := ⟨_, _, _, cl_11, in_11, by decide, rfl, rfl, Or.inl rfl⟩
theorem fo_60 : m_fo 11 1 "NeverLike" "image" "LNeverLike$Town;" := ⟨_, _, _, cl_11, in_11, by decide, rfl, rfl, Or.inl rfl⟩
theorem fo_61 : m_fo 11 2 "NeverLike" "hasImage" "Z" := ⟨_, _, _, cl_11, in_11, by decide, rfl, rfl, Or.inl rfl⟩
theorem fo_62 : m_fo 8 0 "NeverLike$Painter" "number" "I" := ⟨_, _, _, cl_8, in_8, by decide, rfl, rfl, Or.inl rfl⟩
theorem fo_63 : m_fo 7 0 "NeverLike$Painter" "number" "I" := ⟨_, _, _, cl_7, in_7, by decide, rfl, rfl, Or.inl rfl⟩
theorem fo_64 : m_fo 3 0 "NeverLike$Painter" "number" "I" := ⟨_, _, _, cl_3, in_3, by decide, rfl, rfl, Or.inl rfl⟩
theorem fo_65 : m_fo 2 0 "NeverLike$Painter" "number" "I" := ⟨_, _, _, cl_2, in_2, by decide, rfl, rfl, Or.inl rfl⟩
theorem fo_66 : m_fo 1 0 "NeverLike$Painter" "number" "I" := ⟨_, _, _, cl_1, in_1, by decide, rfl, rfl, Or.inl rfl⟩
theorem fo_67 : m_fo 0 0 "NeverLike$Painter" "number" "I" := ⟨_, _, _, cl_0, in_0, by decide, rfl, rfl, Or.inl rfl⟩
theorem fo_68 : m_fo 11 10 "NeverLike" "names" "[I" := ⟨_, _, _, cl_11, in_11, by decide, rfl, rfl, Or.inl rfl⟩
theorem fo_69 : m_fo 5 2 "NeverLike$Search" "knowsPrices" "Z" := ⟨_, _, _, cl_5, in_5, by decide, rfl, rfl, Or.inl rfl⟩
theorem fo_70 : m_fo 12 38 "NeverLikeModel" "sort" "[I" := ⟨_, _, _, cl_12, in_12, by decide, rfl, rfl, Or.inl rfl⟩
theorem pd_10 : parseFieldDescriptor "[[I" = some (.array (.array .int)) := by decide +kernel
theorem fo_71 : m_fo 12 2 "NeverLikeModel" "wish" "[I" := ⟨_, _, _, cl_12, in_12, by decide, rfl, rfl, Or.inl rfl⟩
theorem fo_72 : m_fo 12 1 "NeverLikeModel" "colour" "[I" := ⟨_, _, _, cl_12, in_12, by decide, rfl, rfl, Or.inl rfl⟩
theorem fo_73 : m_fo 12 0 "NeverLikeModel" "touching" "[I" := ⟨_, _, _, cl_12, in_12, by decide, rfl, rfl, Or.inl rfl⟩
theorem fo_74 : m_fo 12 5 "NeverLikeModel" "houses" "I" := ⟨_, _, _, cl_12, in_12, by decide, rfl, rfl, Or.inl rfl⟩
theorem fo_75 : m_fo 12 6 "NeverLikeModel" "colours" "I" := ⟨_, _, _, cl_12, in_12, by decide, rfl, rfl, Or.inl rfl⟩
theorem fo_76 : m_fo 12 8 "NeverLikeModel" "keeping" "I" := ⟨_, _, _, cl_12, in_12, by decide, rfl, rfl, Or.inl rfl⟩
theorem fo_77 : m_fo 12 7 "NeverLikeModel" "spring" "I" := ⟨_, _, _, cl_12, in_12, by decide, rfl, rfl, Or.inl rfl⟩
theorem fo_78 : m_fo 12 9 "NeverLikeModel" "painters" "I" := ⟨_, _, _, cl_12, in_12, by decide, rfl, rfl, Or.inl rfl⟩
theorem fo_79 : m_fo 12 4 "NeverLikeModel" "painterNumber" "[I" := ⟨_, _, _, cl_12, in_12, by decide, rfl, rfl, Or.inl rfl⟩
theorem fo_80 : m_fo 12 3 "NeverLikeModel" "painterKind" "[I" := ⟨_, _, _, cl_12, in_12, by decide, rfl, rfl, Or.inl rfl⟩
theorem fo_81 : m_fo 12 26 "NeverLikeModel" "row" "I" := ⟨_, _, _, cl_12, in_12, by decide, rfl, rfl, Or.inl rfl⟩
theorem fo_82 : m_fo 12 15 "NeverLikeModel" "codeLong" "[I" := ⟨_, _, _, cl_12, in_12, by decide, rfl, rfl, Or.inl rfl⟩
theorem fo_83 : m_fo 12 14 "NeverLikeModel" "codes" "[I" := ⟨_, _, _, cl_12, in_12, by decide, rfl, rfl, Or.inl rfl⟩
theorem fo_84 : m_fo 12 18 "NeverLikeModel" "taped" "I" := ⟨_, _, _, cl_12, in_12, by decide, rfl, rfl, Or.inl rfl⟩
theorem fo_85 : m_fo 12 13 "NeverLikeModel" "tape" "[I" := ⟨_, _, _, cl_12, in_12, by decide, rfl, rfl, Or.inl rfl⟩
theorem fo_86 : m_fo 12 20 "NeverLikeModel" "next" "I" := ⟨_, _, _, cl_12, in_12, by decide, rfl, rfl, Or.inl rfl⟩
theorem fo_87 : m_fo 12 22 "NeverLikeModel" "tokenAt" "I" := ⟨_, _, _, cl_12, in_12, by decide, rfl, rfl, Or.inl rfl⟩
theorem fo_88 : m_fo 12 12 "NeverLikeModel" "words" "[[I" := ⟨_, _, _, cl_12, in_12, by decide, rfl, rfl, Or.inl rfl⟩
theorem fo_89 : m_fo 12 23 "NeverLikeModel" "value" "I" := ⟨_, _, _, cl_12, in_12, by decide, rfl, rfl, Or.inl rfl⟩
theorem fo_90 : m_fo 12 25 "NeverLikeModel" "heldMany" "I" := ⟨_, _, _, cl_12, in_12, by decide, rfl, rfl, Or.inl rfl⟩
theorem fo_91 : m_fo 12 16 "NeverLikeModel" "held" "[I" := ⟨_, _, _, cl_12, in_12, by decide, rfl, rfl, Or.inl rfl⟩
theorem fo_92 : m_fo 12 24 "NeverLikeModel" "open" "I" := ⟨_, _, _, cl_12, in_12, by decide, rfl, rfl, Or.inl rfl⟩
theorem fo_93 : m_fo 12 21 "NeverLikeModel" "token" "I" := ⟨_, _, _, cl_12, in_12, by decide, rfl, rfl, Or.inl rfl⟩
theorem fo_94 : m_fo 12 19 "NeverLikeModel" "texts" "I" := ⟨_, _, _, cl_12, in_12, by decide, rfl, rfl, Or.inl rfl⟩
theorem fo_95 : m_fo 12 10 "NeverLikeModel" "theRule" "I" := ⟨_, _, _, cl_12, in_12, by decide, rfl, rfl, Or.inl rfl⟩
theorem fo_96 : m_fo 12 17 "NeverLikeModel" "stack" "[I" := ⟨_, _, _, cl_12, in_12, by decide, rfl, rfl, Or.inl rfl⟩
theorem fo_97 : m_fo 12 27 "NeverLikeModel" "stepTable" "[I" := ⟨_, _, _, cl_12, in_12, by decide, rfl, rfl, Or.inl rfl⟩
theorem fo_98 : m_fo 12 28 "NeverLikeModel" "unit" "[I" := ⟨_, _, _, cl_12, in_12, by decide, rfl, rfl, Or.inl rfl⟩
theorem fo_99 : m_fo 12 31 "NeverLikeModel" "queue" "[I" := ⟨_, _, _, cl_12, in_12, by decide, rfl, rfl, Or.inl rfl⟩
theorem fo_100 : m_fo 12 29 "NeverLikeModel" "steps" "[I" := ⟨_, _, _, cl_12, in_12, by decide, rfl, rfl, Or.inl rfl⟩
theorem fo_101 : m_fo 12 32 "NeverLikeModel" "part" "[I" := ⟨_, _, _, cl_12, in_12, by decide, rfl, rfl, Or.inl rfl⟩
theorem fo_102 : m_fo 12 30 "NeverLikeModel" "costs" "[I" := ⟨_, _, _, cl_12, in_12, by decide, rfl, rfl, Or.inl rfl⟩
theorem fo_103 : m_fo 12 40 "NeverLikeModel" "cells" "[I" := ⟨_, _, _, cl_12, in_12, by decide, rfl, rfl, Or.inl rfl⟩
theorem fo_104 : m_fo 12 39 "NeverLikeModel" "size" "[I" := ⟨_, _, _, cl_12, in_12, by decide, rfl, rfl, Or.inl rfl⟩
theorem fo_105 : m_fo 12 34 "NeverLikeModel" "keptWish" "[I" := ⟨_, _, _, cl_12, in_12, by decide, rfl, rfl, Or.inl rfl⟩
theorem fo_106 : m_fo 12 33 "NeverLikeModel" "keptColour" "[I" := ⟨_, _, _, cl_12, in_12, by decide, rfl, rfl, Or.inl rfl⟩
theorem fo_107 : m_fo 12 37 "NeverLikeModel" "keptRule" "I" := ⟨_, _, _, cl_12, in_12, by decide, rfl, rfl, Or.inl rfl⟩
theorem fo_108 : m_fo 12 36 "NeverLikeModel" "keptKeeping" "I" := ⟨_, _, _, cl_12, in_12, by decide, rfl, rfl, Or.inl rfl⟩
theorem fo_109 : m_fo 12 35 "NeverLikeModel" "keptSpring" "I" := ⟨_, _, _, cl_12, in_12, by decide, rfl, rfl, Or.inl rfl⟩
theorem fo_110 : m_fo 12 11 "NeverLikeModel" "hasImage" "Z" := ⟨_, _, _, cl_12, in_12, by decide, rfl, rfl, Or.inl rfl⟩
theorem fo_111 : m_fo 12 41 "NeverLikeModel" "moved" "[I" := ⟨_, _, _, cl_12, in_12, by decide, rfl, rfl, Or.inl rfl⟩
/-- a text is right at a place, whichever method's it is -/
def m_ts (Γ : m_G) (X : m_X) (q : Nat) : Prop := ∀ (k pc : Nat) (M : m_M), q = 4096 * k + pc → pc < 4096 → m_tab k = some M → m_ok Γ m_tab k M pc X
theorem ts_n {Γ : m_G} {b : Bool} {X Y : m_X} {q : Nat} (h1 : m_ts Γ X q) (h2 : m_ts Γ Y q) : m_ts Γ (m_xi b X Y) q := by cases b; exact h2; exact h1
theorem ts_l {Γ : m_G} {X : m_X} {q k pc key : Nat} {M : m_M} (ht : m_tab k = some M) (hk : key = 4096 * k + pc) (hp : pc < 4096) (h : m_ok Γ m_tab k M pc X) : m_ts Γ (m_xi (Nat.beq q key) X x_bad) q := by
  cases hb : Nat.beq q key with
  | false => intro k2 pc2 M2 _ _ _; exact ok_bad
  | true =>
    intro k2 pc2 M2 e1 e2 e3
    have e4 := Nat.eq_of_beq_eq_true hb
    have e5 : k2 = k := by omega
    have e6 : pc2 = pc := by omega
    subst e5
    subst e6
    cases ht.symm.trans e3
    exact h
