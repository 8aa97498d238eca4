/-! WORDS: the tables' words that every contract takes (written by wip/gen/gennames.py) -/
def m_T : List Cond := lw_tbl.filter goodWord
theorem mt_in {w : Cond} (h : w ∈ m_T) : w ∈ lw_tbl := (List.mem_filter.mp h).1
theorem mt_good {w : Cond} (h : w ∈ m_T) : goodWord w = true := (List.mem_filter.mp h).2
theorem mt_0 {w : Cond} (h : w ∈ k2_sels lw_privs) (hg : goodWord w = true) : w ∈ m_T := List.mem_filter.mpr ⟨List.mem_append_left _ h, hg⟩
theorem mc_1 {w : Cond} (h : w ∈ tables_1_1) : w ∈ lw_tbl := List.mem_append_right _ (show w ∈ tables_1 from List.mem_append_left _ h)
theorem mt_1 (i : Nat) {w : Cond} (h : tables_1_1[i]? = some w) (hg : goodWord w = true) : w ∈ m_T := List.mem_filter.mpr ⟨mc_1 (List.mem_of_getElem? h), hg⟩
theorem mc_2 {w : Cond} (h : w ∈ tables_1_2) : w ∈ lw_tbl := List.mem_append_right _ (show w ∈ tables_1 from List.mem_append_right _ (List.mem_append_left _ h))
theorem mt_2 (i : Nat) {w : Cond} (h : tables_1_2[i]? = some w) (hg : goodWord w = true) : w ∈ m_T := List.mem_filter.mpr ⟨mc_2 (List.mem_of_getElem? h), hg⟩
theorem mc_3 {w : Cond} (h : w ∈ tables_1_3) : w ∈ lw_tbl := List.mem_append_right _ (show w ∈ tables_1 from List.mem_append_right _ (List.mem_append_right _ (List.mem_append_left _ h)))
theorem mt_3 (i : Nat) {w : Cond} (h : tables_1_3[i]? = some w) (hg : goodWord w = true) : w ∈ m_T := List.mem_filter.mpr ⟨mc_3 (List.mem_of_getElem? h), hg⟩
theorem mc_4 {w : Cond} (h : w ∈ tables_1_4) : w ∈ lw_tbl := List.mem_append_right _ (show w ∈ tables_1 from List.mem_append_right _ (List.mem_append_right _ (List.mem_append_right _ (List.mem_append_left _ h))))
theorem mt_4 (i : Nat) {w : Cond} (h : tables_1_4[i]? = some w) (hg : goodWord w = true) : w ∈ m_T := List.mem_filter.mpr ⟨mc_4 (List.mem_of_getElem? h), hg⟩
theorem mc_5 {w : Cond} (h : w ∈ tables_1_5) : w ∈ lw_tbl := List.mem_append_right _ (show w ∈ tables_1 from List.mem_append_right _ (List.mem_append_right _ (List.mem_append_right _ (List.mem_append_right _ (List.mem_append_left _ h)))))
theorem mt_5 (i : Nat) {w : Cond} (h : tables_1_5[i]? = some w) (hg : goodWord w = true) : w ∈ m_T := List.mem_filter.mpr ⟨mc_5 (List.mem_of_getElem? h), hg⟩
theorem mc_6 {w : Cond} (h : w ∈ tables_1_6) : w ∈ lw_tbl := List.mem_append_right _ (show w ∈ tables_1 from List.mem_append_right _ (List.mem_append_right _ (List.mem_append_right _ (List.mem_append_right _ (List.mem_append_right _ (h))))))
theorem mt_6 (i : Nat) {w : Cond} (h : tables_1_6[i]? = some w) (hg : goodWord w = true) : w ∈ m_T := List.mem_filter.mpr ⟨mc_6 (List.mem_of_getElem? h), hg⟩
theorem mt_sub (ws l : List Cond) (hl : ∀ w ∈ l, w ∈ lw_tbl) (ps : List Nat) (h2 : ws = ps.filterMap (fun i => l[i]?)) (hg : ws.all goodWord = true) : ∀ w ∈ ws, w ∈ m_T := by
  intro w hw
  have h3 := List.all_eq_true.mp hg w hw
  rw [h2] at hw
  obtain ⟨i, hi, h⟩ := List.mem_filterMap.mp hw
  exact List.mem_filter.mpr ⟨hl w (List.mem_of_getElem? h), h3⟩
theorem w_0 : (Jvm.Cond.initialized "NeverLikeLaw") ∈ m_T := mt_1 0 rfl rfl
theorem w_1 : (Jvm.Cond.initialized "NeverLike") ∈ m_T := mt_1 1 rfl rfl
theorem w_2 : (Jvm.Cond.initialized "NeverLike$Town") ∈ m_T := mt_1 2 rfl rfl
theorem w_3 : (Jvm.Cond.initialized "NeverLike$Search") ∈ m_T := mt_1 3 rfl rfl
theorem w_4 : (Jvm.Cond.initialized "NeverLike$Reader") ∈ m_T := mt_1 4 rfl rfl
theorem w_5 : (Jvm.Cond.initialized "java/lang/String") ∈ m_T := mt_1 5 rfl rfl
theorem w_6 : (Jvm.Cond.initialized "java/lang/StringLatin1") ∈ m_T := mt_1 6 rfl rfl
theorem w_7 : (Jvm.Cond.initialized "jdk/internal/util/Preconditions") ∈ m_T := mt_1 7 rfl rfl
theorem w_8 : (Jvm.Cond.initialized "java/lang/StringUTF16") ∈ m_T := mt_1 8 rfl rfl
theorem w_9 : (Jvm.Cond.initialized "java/lang/System") ∈ m_T := mt_1 9 rfl rfl
theorem w_10 : (Jvm.Cond.initialized "NeverLike$Text") ∈ m_T := mt_1 10 rfl rfl
theorem w_11 : (Jvm.Cond.initialized "NeverLikeModel") ∈ m_T := mt_1 11 rfl rfl
theorem w_12 : (Jvm.Cond.initialized "NeverLike$Painter") ∈ m_T := mt_1 12 rfl rfl
theorem w_13 : (Jvm.Cond.initialized "NeverLike$Steep") ∈ m_T := mt_1 13 rfl rfl
theorem w_14 : (Jvm.Cond.initialized "NeverLike$Shy") ∈ m_T := mt_1 14 rfl rfl
theorem w_15 : (Jvm.Cond.initialized "NeverLike$Moody") ∈ m_T := mt_1 15 rfl rfl
theorem w_16 : (Jvm.Cond.initialized "NeverLike$Old") ∈ m_T := mt_1 16 rfl rfl
theorem w_17 : (Jvm.Cond.initialized "NeverLike$Green") ∈ m_T := mt_1 17 rfl rfl
theorem w_18 : (Jvm.Cond.initialized "java/lang/Math") ∈ m_T := mt_1 18 rfl rfl
theorem w_19 : (Jvm.Cond.initialized "java/lang/Integer") ∈ m_T := mt_1 19 rfl rfl
theorem w_20 : (Jvm.Cond.initialized "NeverLike$Sheet") ∈ m_T := mt_1 20 rfl rfl
theorem w_21 : (Jvm.Cond.classLink "NeverLikeLaw" (7 : Nat) "NeverLike") ∈ m_T := mt_1 21 rfl rfl
theorem w_22 : (Jvm.Cond.instantiable "NeverLike" (13 : Nat)) ∈ m_T := mt_1 22 rfl rfl
theorem w_23 : (Jvm.Cond.methodLink "NeverLikeLaw" (9 : Nat) ({ cls := "NeverLike", name := "<init>", desc := "()V" } : Jvm.MethodName)) ∈ m_T := mt_1 23 rfl rfl
theorem w_24 : (Jvm.Cond.instanceMethod ({ cls := "NeverLike", name := "<init>", desc := "()V" } : Jvm.MethodName)) ∈ m_T := mt_1 24 rfl rfl
theorem w_25 : (Jvm.Cond.code ({ cls := "NeverLike", name := "<init>", desc := "()V" } : Jvm.MethodName) prog_1_method_1_code (2 : Nat) (Option.none : Option Jvm.ClassFile.FieldType)) ∈ m_T := mt_1 25 rfl rfl
theorem w_26 : (Jvm.Cond.methodLink "NeverLike" (1 : Nat) ({ cls := "java/lang/Object", name := "<init>", desc := "()V" } : Jvm.MethodName)) ∈ m_T := mt_1 26 rfl rfl
theorem w_27 : (Jvm.Cond.instanceMethod ({ cls := "java/lang/Object", name := "<init>", desc := "()V" } : Jvm.MethodName)) ∈ m_T := mt_1 27 rfl rfl
theorem w_28 : (Jvm.Cond.code ({ cls := "java/lang/Object", name := "<init>", desc := "()V" } : Jvm.MethodName) object_method_1_code (1 : Nat) (Option.none : Option Jvm.ClassFile.FieldType)) ∈ m_T := mt_1 28 rfl rfl
theorem w_29 : (Jvm.Cond.classLink "NeverLike" (7 : Nat) "NeverLike$Town") ∈ m_T := mt_1 29 rfl rfl
theorem w_30 : (Jvm.Cond.instantiable "NeverLike$Town" (9 : Nat)) ∈ m_T := mt_1 30 rfl rfl
theorem w_31 : (Jvm.Cond.methodLink "NeverLike" (9 : Nat) ({ cls := "NeverLike$Town", name := "<init>", desc := "()V" } : Jvm.MethodName)) ∈ m_T := mt_1 31 rfl rfl
theorem w_32 : (Jvm.Cond.instanceMethod ({ cls := "NeverLike$Town", name := "<init>", desc := "()V" } : Jvm.MethodName)) ∈ m_T := mt_1 32 rfl rfl
theorem w_33 : (Jvm.Cond.code ({ cls := "NeverLike$Town", name := "<init>", desc := "()V" } : Jvm.MethodName) prog_12_method_1_code (1 : Nat) (Option.none : Option Jvm.ClassFile.FieldType)) ∈ m_T := mt_1 33 rfl rfl
theorem w_34 : (Jvm.Cond.methodLink "NeverLike$Town" (3 : Nat) ({ cls := "java/lang/Object", name := "<init>", desc := "()V" } : Jvm.MethodName)) ∈ m_T := mt_1 34 rfl rfl
theorem w_35 : (Jvm.Cond.methodLink "NeverLike$Town" (21 : Nat) ({ cls := "NeverLike$Town", name := "lay", desc := "(II)V" } : Jvm.MethodName)) ∈ m_T := mt_1 35 rfl rfl
theorem w_36 : (Jvm.Cond.instanceMethod ({ cls := "NeverLike$Town", name := "lay", desc := "(II)V" } : Jvm.MethodName)) ∈ m_T := mt_1 36 rfl rfl
theorem w_37 : (Jvm.Cond.selects "NeverLike$Town" ({ cls := "NeverLike$Town", name := "lay", desc := "(II)V" } : Jvm.MethodName) ({ cls := "NeverLike$Town", name := "lay", desc := "(II)V" } : Jvm.MethodName)) ∈ m_T := mt_1 37 rfl rfl
theorem w_38 : (Jvm.Cond.code ({ cls := "NeverLike$Town", name := "lay", desc := "(II)V" } : Jvm.MethodName) prog_12_method_2_code (4 : Nat) (Option.none : Option Jvm.ClassFile.FieldType)) ∈ m_T := mt_1 38 rfl rfl
theorem w_40 : (Jvm.Cond.static ({ cls := "NeverLike", name := "townsOf", desc := "(II)I" } : Jvm.MethodName)) ∈ m_T := mt_1 40 rfl rfl
theorem w_41 : (Jvm.Cond.code ({ cls := "NeverLike", name := "townsOf", desc := "(II)I" } : Jvm.MethodName) prog_1_method_37_code (4 : Nat) (Option.some Jvm.ClassFile.FieldType.int)) ∈ m_T := mt_1 41 rfl rfl
theorem w_42 : (Jvm.Cond.methodLink "NeverLike$Town" (39 : Nat) ({ cls := "NeverLike$Town", name := "link", desc := "(IIZ)V" } : Jvm.MethodName)) ∈ m_T := mt_1 42 rfl rfl
theorem w_43 : (Jvm.Cond.instanceMethod ({ cls := "NeverLike$Town", name := "link", desc := "(IIZ)V" } : Jvm.MethodName)) ∈ m_T := mt_1 43 rfl rfl
theorem w_44 : (Jvm.Cond.selects "NeverLike$Town" ({ cls := "NeverLike$Town", name := "link", desc := "(IIZ)V" } : Jvm.MethodName) ({ cls := "NeverLike$Town", name := "link", desc := "(IIZ)V" } : Jvm.MethodName)) ∈ m_T := mt_1 44 rfl rfl
theorem w_45 : (Jvm.Cond.code ({ cls := "NeverLike$Town", name := "link", desc := "(IIZ)V" } : Jvm.MethodName) prog_12_method_4_code (4 : Nat) (Option.none : Option Jvm.ClassFile.FieldType)) ∈ m_T := mt_1 45 rfl rfl
theorem w_46 : (Jvm.Cond.fieldLink "NeverLike$Town" (25 : Nat) "NeverLike$Town" "houses" "I") ∈ m_T := mt_1 46 rfl rfl
theorem w_47 : (Jvm.Cond.fieldLink "NeverLike" (91 : Nat) "NeverLike$Town" "houses" "I") ∈ m_T := mt_1 47 rfl rfl
theorem w_48 : (Jvm.Cond.fieldLink "NeverLike$Search" (82 : Nat) "NeverLike$Town" "houses" "I") ∈ m_T := mt_1 48 rfl rfl
theorem w_49 : (Jvm.Cond.fieldLink "NeverLike$Town" (29 : Nat) "NeverLike$Town" "colours" "I") ∈ m_T := mt_1 49 rfl rfl
theorem w_50 : (Jvm.Cond.fieldLink "NeverLike$Search" (92 : Nat) "NeverLike$Town" "colours" "I") ∈ m_T := mt_1 50 rfl rfl
theorem w_51 : (Jvm.Cond.fieldLink "NeverLike" (244 : Nat) "NeverLike$Town" "colours" "I") ∈ m_T := mt_1 51 rfl rfl
theorem w_52 : (Jvm.Cond.fieldLink "NeverLike$Town" (36 : Nat) "NeverLike$Town" "towns" "I") ∈ m_T := mt_1 52 rfl rfl
theorem w_53 : (Jvm.Cond.fieldLink "NeverLike$Search" (69 : Nat) "NeverLike$Town" "towns" "I") ∈ m_T := mt_1 53 rfl rfl
theorem w_54 : (Jvm.Cond.fieldLink "NeverLike$Town" (9 : Nat) "NeverLike$Town" "touching" "[I") ∈ m_T := mt_1 54 rfl rfl
theorem w_55 : (Jvm.Cond.fieldLink "NeverLike" (115 : Nat) "NeverLike$Town" "touching" "[I") ∈ m_T := mt_1 55 rfl rfl
theorem w_56 : (Jvm.Cond.fieldLink "NeverLike$Search" (85 : Nat) "NeverLike$Town" "touching" "[I") ∈ m_T := mt_1 56 rfl rfl
theorem w_57 : (Jvm.Cond.fieldLink "NeverLike$Town" (15 : Nat) "NeverLike$Town" "colour" "[I") ∈ m_T := mt_1 57 rfl rfl
theorem w_58 : (Jvm.Cond.fieldLink "NeverLike" (129 : Nat) "NeverLike$Town" "colour" "[I") ∈ m_T := mt_1 58 rfl rfl
theorem w_59 : (Jvm.Cond.fieldLink "NeverLike$Search" (106 : Nat) "NeverLike$Town" "colour" "[I") ∈ m_T := mt_1 59 rfl rfl
theorem w_60 : (Jvm.Cond.fieldLink "NeverLike$Town" (18 : Nat) "NeverLike$Town" "wish" "[I") ∈ m_T := mt_1 60 rfl rfl
theorem w_61 : (Jvm.Cond.fieldLink "NeverLike" (132 : Nat) "NeverLike$Town" "wish" "[I") ∈ m_T := mt_1 61 rfl rfl
theorem w_62 : (Jvm.Cond.fieldLink "NeverLike$Search" (118 : Nat) "NeverLike$Town" "wish" "[I") ∈ m_T := mt_1 62 rfl rfl
theorem w_63 : (Jvm.Cond.fieldLink "NeverLike$Town" (43 : Nat) "NeverLike$Town" "keeps" "I") ∈ m_T := mt_1 63 rfl rfl
theorem w_64 : (Jvm.Cond.fieldLink "NeverLike" (139 : Nat) "NeverLike$Town" "keeps" "I") ∈ m_T := mt_1 64 rfl rfl
theorem w_65 : (Jvm.Cond.fieldLink "NeverLike$Town" (46 : Nat) "NeverLike$Town" "spring" "I") ∈ m_T := mt_1 65 rfl rfl
theorem w_66 : (Jvm.Cond.fieldLink "NeverLike" (142 : Nat) "NeverLike$Town" "spring" "I") ∈ m_T := mt_1 66 rfl rfl
theorem w_67 : (Jvm.Cond.fieldLink "NeverLike$Town" (55 : Nat) "NeverLike$Town" "rule" "I") ∈ m_T := mt_1 67 rfl rfl
theorem w_68 : (Jvm.Cond.fieldLink "NeverLike" (180 : Nat) "NeverLike$Town" "rule" "I") ∈ m_T := mt_1 68 rfl rfl
theorem w_88 : (Jvm.Cond.arrayClass Jvm.ClassFile.FieldType.int) ∈ m_T := mt_1 88 rfl rfl
theorem w_89 : (Jvm.Cond.classLink "NeverLike" (19 : Nat) "NeverLike$Search") ∈ m_T := mt_1 89 rfl rfl
theorem w_90 : (Jvm.Cond.instantiable "NeverLike$Search" (12 : Nat)) ∈ m_T := mt_1 90 rfl rfl
theorem w_91 : (Jvm.Cond.methodLink "NeverLike" (21 : Nat) ({ cls := "NeverLike$Search", name := "<init>", desc := "(LNeverLike$Town;)V" } : Jvm.MethodName)) ∈ m_T := mt_1 91 rfl rfl
theorem w_92 : (Jvm.Cond.instanceMethod ({ cls := "NeverLike$Search", name := "<init>", desc := "(LNeverLike$Town;)V" } : Jvm.MethodName)) ∈ m_T := mt_1 92 rfl rfl
theorem w_93 : (Jvm.Cond.code ({ cls := "NeverLike$Search", name := "<init>", desc := "(LNeverLike$Town;)V" } : Jvm.MethodName) prog_7_method_1_code (2 : Nat) (Option.none : Option Jvm.ClassFile.FieldType)) ∈ m_T := mt_1 93 rfl rfl
theorem w_94 : (Jvm.Cond.methodLink "NeverLike$Search" (3 : Nat) ({ cls := "java/lang/Object", name := "<init>", desc := "()V" } : Jvm.MethodName)) ∈ m_T := mt_1 94 rfl rfl
theorem w_95 : (Jvm.Cond.fieldLink "NeverLike$Search" (38 : Nat) "NeverLike$Search" "town" "LNeverLike$Town;") ∈ m_T := mt_1 95 rfl rfl
theorem w_96 : (Jvm.Cond.fieldLink "NeverLike$Search" (9 : Nat) "NeverLike$Search" "prices" "[I") ∈ m_T := mt_1 96 rfl rfl
theorem w_97 : (Jvm.Cond.fieldLink "NeverLike$Search" (42 : Nat) "NeverLike$Search" "knowsPrices" "Z") ∈ m_T := mt_1 97 rfl rfl
theorem w_99 : (Jvm.Cond.fieldLink "NeverLike$Search" (15 : Nat) "NeverLike$Search" "colour" "[I") ∈ m_T := mt_1 99 rfl rfl
theorem w_100 : (Jvm.Cond.fieldLink "NeverLike$Search" (18 : Nat) "NeverLike$Search" "start" "I") ∈ m_T := mt_1 100 rfl rfl
theorem w_101 : (Jvm.Cond.fieldLink "NeverLike$Search" (22 : Nat) "NeverLike$Search" "row" "[I") ∈ m_T := mt_1 101 rfl rfl
theorem w_102 : (Jvm.Cond.fieldLink "NeverLike$Search" (63 : Nat) "NeverLike$Search" "found" "I") ∈ m_T := mt_1 102 rfl rfl
theorem w_104 : (Jvm.Cond.fieldLink "NeverLike$Search" (25 : Nat) "NeverLike$Search" "steps" "[I") ∈ m_T := mt_1 104 rfl rfl
theorem w_105 : (Jvm.Cond.fieldLink "NeverLike$Search" (28 : Nat) "NeverLike$Search" "ahead" "[I") ∈ m_T := mt_1 105 rfl rfl
theorem w_106 : (Jvm.Cond.fieldLink "NeverLike$Search" (31 : Nat) "NeverLike$Search" "cost" "[I") ∈ m_T := mt_1 106 rfl rfl
theorem w_107 : (Jvm.Cond.fieldLink "NeverLike$Search" (34 : Nat) "NeverLike$Search" "cheapened" "[Z") ∈ m_T := mt_1 107 rfl rfl
theorem w_108 : (Jvm.Cond.fieldLink "NeverLike$Search" (66 : Nat) "NeverLike$Search" "knowsCosts" "Z") ∈ m_T := mt_1 108 rfl rfl
theorem w_134 : (Jvm.Cond.arrayClass Jvm.ClassFile.FieldType.boolean) ∈ m_T := mt_1 134 rfl rfl
theorem w_135 : (Jvm.Cond.classLink "NeverLike" (28 : Nat) "NeverLike$Painter") ∈ m_T := mt_1 135 rfl rfl
theorem w_137 : (Jvm.Cond.classLink "NeverLike" (34 : Nat) "NeverLike$Reader") ∈ m_T := mt_1 137 rfl rfl
theorem w_138 : (Jvm.Cond.instantiable "NeverLike$Reader" (9 : Nat)) ∈ m_T := mt_1 138 rfl rfl
theorem w_140 : (Jvm.Cond.instanceMethod ({ cls := "NeverLike$Reader", name := "<init>", desc := "()V" } : Jvm.MethodName)) ∈ m_T := mt_1 140 rfl rfl
theorem w_141 : (Jvm.Cond.code ({ cls := "NeverLike$Reader", name := "<init>", desc := "()V" } : Jvm.MethodName) prog_6_method_1_code (1 : Nat) (Option.none : Option Jvm.ClassFile.FieldType)) ∈ m_T := mt_1 141 rfl rfl
theorem w_142 : (Jvm.Cond.methodLink "NeverLike$Reader" (3 : Nat) ({ cls := "java/lang/Object", name := "<init>", desc := "()V" } : Jvm.MethodName)) ∈ m_T := mt_1 142 rfl rfl
theorem w_143 : (Jvm.Cond.fieldLink "NeverLike$Reader" (9 : Nat) "NeverLike$Reader" "tape" "[I") ∈ m_T := mt_1 143 rfl rfl
theorem w_144 : (Jvm.Cond.fieldLink "NeverLike$Reader" (24 : Nat) "NeverLike$Reader" "size" "I") ∈ m_T := mt_1 144 rfl rfl
theorem w_146 : (Jvm.Cond.fieldLink "NeverLike$Reader" (15 : Nat) "NeverLike$Reader" "tokens" "[I") ∈ m_T := mt_1 146 rfl rfl
theorem w_147 : (Jvm.Cond.fieldLink "NeverLike$Reader" (18 : Nat) "NeverLike$Reader" "places" "[I") ∈ m_T := mt_1 147 rfl rfl
theorem w_148 : (Jvm.Cond.fieldLink "NeverLike$Reader" (37 : Nat) "NeverLike$Reader" "at" "I") ∈ m_T := mt_1 148 rfl rfl
theorem w_149 : (Jvm.Cond.fieldLink "NeverLike$Reader" (40 : Nat) "NeverLike$Reader" "token" "I") ∈ m_T := mt_1 149 rfl rfl
theorem w_150 : (Jvm.Cond.fieldLink "NeverLike$Reader" (31 : Nat) "NeverLike$Reader" "fault" "I") ∈ m_T := mt_1 150 rfl rfl
theorem w_152 : (Jvm.Cond.fieldLink "NeverLike$Reader" (21 : Nat) "NeverLike$Reader" "code" "[I") ∈ m_T := mt_1 152 rfl rfl
theorem w_153 : (Jvm.Cond.fieldLink "NeverLike$Reader" (34 : Nat) "NeverLike$Reader" "written" "I") ∈ m_T := mt_1 153 rfl rfl
theorem w_173 : (Jvm.Cond.classLink "NeverLike" (41 : Nat) "NeverLike$Text") ∈ m_T := mt_1 173 rfl rfl
theorem w_175 : (Jvm.Cond.classLink "NeverLike" (47 : Nat) "NeverLike$Sheet") ∈ m_T := mt_1 175 rfl rfl
theorem w_178 : (Jvm.Cond.methodLink "NeverLike" (65 : Nat) ({ cls := "java/lang/String", name := "length", desc := "()I" } : Jvm.MethodName)) ∈ m_T := mt_1 178 rfl rfl
theorem w_179 : (Jvm.Cond.instanceMethod ({ cls := "java/lang/String", name := "length", desc := "()I" } : Jvm.MethodName)) ∈ m_T := mt_1 179 rfl rfl
theorem w_180 : (Jvm.Cond.selects "java/lang/String" ({ cls := "java/lang/String", name := "length", desc := "()I" } : Jvm.MethodName) ({ cls := "java/lang/String", name := "length", desc := "()I" } : Jvm.MethodName)) ∈ m_T := mt_1 180 rfl rfl
theorem w_181 : (Jvm.Cond.code ({ cls := "java/lang/String", name := "length", desc := "()I" } : Jvm.MethodName) prog_17_method_54_code (1 : Nat) (Option.some Jvm.ClassFile.FieldType.int)) ∈ m_T := mt_1 181 rfl rfl
theorem w_182 : (Jvm.Cond.methodLink "java/lang/String" (335 : Nat) ({ cls := "java/lang/String", name := "coder", desc := "()B" } : Jvm.MethodName)) ∈ m_T := mt_1 182 rfl rfl
theorem w_183 : (Jvm.Cond.instanceMethod ({ cls := "java/lang/String", name := "coder", desc := "()B" } : Jvm.MethodName)) ∈ m_T := mt_1 183 rfl rfl
theorem w_184 : (Jvm.Cond.selects "java/lang/String" ({ cls := "java/lang/String", name := "coder", desc := "()B" } : Jvm.MethodName) ({ cls := "java/lang/String", name := "coder", desc := "()B" } : Jvm.MethodName)) ∈ m_T := mt_1 184 rfl rfl
theorem w_185 : (Jvm.Cond.code ({ cls := "java/lang/String", name := "coder", desc := "()B" } : Jvm.MethodName) prog_17_method_152_code (1 : Nat) (Option.some Jvm.ClassFile.FieldType.byte)) ∈ m_T := mt_1 185 rfl rfl
theorem w_186 : (Jvm.Cond.fieldLink "java/lang/String" (38 : Nat) "java/lang/String" "COMPACT_STRINGS" "Z") ∈ m_T := mt_1 186 rfl rfl
theorem w_188 : (Jvm.Cond.methodLink "NeverLike" (71 : Nat) ({ cls := "java/lang/String", name := "charAt", desc := "(I)C" } : Jvm.MethodName)) ∈ m_T := mt_1 188 rfl rfl
theorem w_189 : (Jvm.Cond.instanceMethod ({ cls := "java/lang/String", name := "charAt", desc := "(I)C" } : Jvm.MethodName)) ∈ m_T := mt_1 189 rfl rfl
theorem w_190 : (Jvm.Cond.selects "java/lang/String" ({ cls := "java/lang/String", name := "charAt", desc := "(I)C" } : Jvm.MethodName) ({ cls := "java/lang/String", name := "charAt", desc := "(I)C" } : Jvm.MethodName)) ∈ m_T := mt_1 190 rfl rfl
theorem w_191 : (Jvm.Cond.code ({ cls := "java/lang/String", name := "charAt", desc := "(I)C" } : Jvm.MethodName) prog_17_method_56_code (2 : Nat) (Option.some Jvm.ClassFile.FieldType.char)) ∈ m_T := mt_1 191 rfl rfl
theorem w_192 : (Jvm.Cond.methodLink "java/lang/String" (492 : Nat) ({ cls := "java/lang/String", name := "isLatin1", desc := "()Z" } : Jvm.MethodName)) ∈ m_T := mt_1 192 rfl rfl
theorem w_193 : (Jvm.Cond.instanceMethod ({ cls := "java/lang/String", name := "isLatin1", desc := "()Z" } : Jvm.MethodName)) ∈ m_T := mt_1 193 rfl rfl
theorem w_194 : (Jvm.Cond.selects "java/lang/String" ({ cls := "java/lang/String", name := "isLatin1", desc := "()Z" } : Jvm.MethodName) ({ cls := "java/lang/String", name := "isLatin1", desc := "()Z" } : Jvm.MethodName)) ∈ m_T := mt_1 194 rfl rfl
theorem w_195 : (Jvm.Cond.code ({ cls := "java/lang/String", name := "isLatin1", desc := "()Z" } : Jvm.MethodName) prog_17_method_154_code (1 : Nat) (Option.some Jvm.ClassFile.FieldType.boolean)) ∈ m_T := mt_1 195 rfl rfl
theorem w_196 : (Jvm.Cond.methodLink "java/lang/String" (495 : Nat) ({ cls := "java/lang/StringLatin1", name := "charAt", desc := "([BI)C" } : Jvm.MethodName)) ∈ m_T := mt_1 196 rfl rfl
theorem w_197 : (Jvm.Cond.static ({ cls := "java/lang/StringLatin1", name := "charAt", desc := "([BI)C" } : Jvm.MethodName)) ∈ m_T := mt_1 197 rfl rfl
theorem w_198 : (Jvm.Cond.code ({ cls := "java/lang/StringLatin1", name := "charAt", desc := "([BI)C" } : Jvm.MethodName) prog_18_method_2_code (2 : Nat) (Option.some Jvm.ClassFile.FieldType.char)) ∈ m_T := mt_1 198 rfl rfl
theorem w_199 : (Jvm.Cond.methodLink "java/lang/StringLatin1" (9 : Nat) ({ cls := "java/lang/String", name := "checkIndex", desc := "(II)V" } : Jvm.MethodName)) ∈ m_T := mt_1 199 rfl rfl
theorem w_200 : (Jvm.Cond.static ({ cls := "java/lang/String", name := "checkIndex", desc := "(II)V" } : Jvm.MethodName)) ∈ m_T := mt_1 200 rfl rfl
theorem w_201 : (Jvm.Cond.code ({ cls := "java/lang/String", name := "checkIndex", desc := "(II)V" } : Jvm.MethodName) prog_17_method_155_code (2 : Nat) (Option.none : Option Jvm.ClassFile.FieldType)) ∈ m_T := mt_1 201 rfl rfl
theorem w_202 : (Jvm.Cond.fieldLink "java/lang/String" (1053 : Nat) "jdk/internal/util/Preconditions" "SIOOBE_FORMATTER" "Ljava/util/function/BiFunction;") ∈ m_T := mt_1 202 rfl rfl
theorem w_204 : (Jvm.Cond.methodLink "java/lang/String" (1059 : Nat) ({ cls := "jdk/internal/util/Preconditions", name := "checkIndex", desc := "(IILjava/util/function/BiFunction;)I" } : Jvm.MethodName)) ∈ m_T := mt_1 204 rfl rfl
theorem w_205 : (Jvm.Cond.static ({ cls := "jdk/internal/util/Preconditions", name := "checkIndex", desc := "(IILjava/util/function/BiFunction;)I" } : Jvm.MethodName)) ∈ m_T := mt_1 205 rfl rfl
theorem w_206 : (Jvm.Cond.code ({ cls := "jdk/internal/util/Preconditions", name := "checkIndex", desc := "(IILjava/util/function/BiFunction;)I" } : Jvm.MethodName) prog_21_method_11_code (3 : Nat) (Option.some Jvm.ClassFile.FieldType.int)) ∈ m_T := mt_1 206 rfl rfl
theorem w_207 : (Jvm.Cond.methodLink "java/lang/String" (498 : Nat) ({ cls := "java/lang/StringUTF16", name := "charAt", desc := "([BI)C" } : Jvm.MethodName)) ∈ m_T := mt_1 207 rfl rfl
theorem w_208 : (Jvm.Cond.static ({ cls := "java/lang/StringUTF16", name := "charAt", desc := "([BI)C" } : Jvm.MethodName)) ∈ m_T := mt_1 208 rfl rfl
theorem w_209 : (Jvm.Cond.code ({ cls := "java/lang/StringUTF16", name := "charAt", desc := "([BI)C" } : Jvm.MethodName) prog_19_method_83_code (2 : Nat) (Option.some Jvm.ClassFile.FieldType.char)) ∈ m_T := mt_1 209 rfl rfl
theorem w_210 : (Jvm.Cond.methodLink "java/lang/StringUTF16" (67 : Nat) ({ cls := "java/lang/StringUTF16", name := "checkIndex", desc := "(I[B)V" } : Jvm.MethodName)) ∈ m_T := mt_1 210 rfl rfl
theorem w_211 : (Jvm.Cond.static ({ cls := "java/lang/StringUTF16", name := "checkIndex", desc := "(I[B)V" } : Jvm.MethodName)) ∈ m_T := mt_1 211 rfl rfl
theorem w_212 : (Jvm.Cond.code ({ cls := "java/lang/StringUTF16", name := "checkIndex", desc := "(I[B)V" } : Jvm.MethodName) prog_19_method_91_code (2 : Nat) (Option.none : Option Jvm.ClassFile.FieldType)) ∈ m_T := mt_1 212 rfl rfl
theorem w_213 : (Jvm.Cond.methodLink "java/lang/StringUTF16" (48 : Nat) ({ cls := "java/lang/StringUTF16", name := "length", desc := "([B)I" } : Jvm.MethodName)) ∈ m_T := mt_1 213 rfl rfl
theorem w_214 : (Jvm.Cond.static ({ cls := "java/lang/StringUTF16", name := "length", desc := "([B)I" } : Jvm.MethodName)) ∈ m_T := mt_1 214 rfl rfl
theorem w_215 : (Jvm.Cond.code ({ cls := "java/lang/StringUTF16", name := "length", desc := "([B)I" } : Jvm.MethodName) prog_19_method_6_code (1 : Nat) (Option.some Jvm.ClassFile.FieldType.int)) ∈ m_T := mt_1 215 rfl rfl
theorem w_216 : (Jvm.Cond.methodLink "java/lang/StringUTF16" (414 : Nat) ({ cls := "java/lang/String", name := "checkIndex", desc := "(II)V" } : Jvm.MethodName)) ∈ m_T := mt_1 216 rfl rfl
theorem w_217 : (Jvm.Cond.methodLink "java/lang/StringUTF16" (71 : Nat) ({ cls := "java/lang/StringUTF16", name := "getChar", desc := "([BI)C" } : Jvm.MethodName)) ∈ m_T := mt_1 217 rfl rfl
theorem w_218 : (Jvm.Cond.static ({ cls := "java/lang/StringUTF16", name := "getChar", desc := "([BI)C" } : Jvm.MethodName)) ∈ m_T := mt_1 218 rfl rfl
theorem w_219 : (Jvm.Cond.code ({ cls := "java/lang/StringUTF16", name := "getChar", desc := "([BI)C" } : Jvm.MethodName) prog_19_method_5_code (2 : Nat) (Option.some Jvm.ClassFile.FieldType.char)) ∈ m_T := mt_1 219 rfl rfl
theorem w_220 : (Jvm.Cond.fieldLink "java/lang/StringUTF16" (44 : Nat) "java/lang/StringUTF16" "$assertionsDisabled" "Z") ∈ m_T := mt_1 220 rfl rfl
theorem w_222 : (Jvm.Cond.fieldLink "java/lang/StringUTF16" (59 : Nat) "java/lang/StringUTF16" "HI_BYTE_SHIFT" "I") ∈ m_T := mt_1 222 rfl rfl
theorem w_224 : (Jvm.Cond.fieldLink "java/lang/StringUTF16" (63 : Nat) "java/lang/StringUTF16" "LO_BYTE_SHIFT" "I") ∈ m_T := mt_1 224 rfl rfl
theorem w_226 : (Jvm.Cond.methodLink "NeverLike" (75 : Nat) ({ cls := "NeverLike$Reader", name := "put", desc := "(I)Z" } : Jvm.MethodName)) ∈ m_T := mt_1 226 rfl rfl
theorem w_227 : (Jvm.Cond.instanceMethod ({ cls := "NeverLike$Reader", name := "put", desc := "(I)Z" } : Jvm.MethodName)) ∈ m_T := mt_1 227 rfl rfl
theorem w_228 : (Jvm.Cond.selects "NeverLike$Reader" ({ cls := "NeverLike$Reader", name := "put", desc := "(I)Z" } : Jvm.MethodName) ({ cls := "NeverLike$Reader", name := "put", desc := "(I)Z" } : Jvm.MethodName)) ∈ m_T := mt_1 228 rfl rfl
theorem w_229 : (Jvm.Cond.code ({ cls := "NeverLike$Reader", name := "put", desc := "(I)Z" } : Jvm.MethodName) prog_6_method_2_code (2 : Nat) (Option.some Jvm.ClassFile.FieldType.boolean)) ∈ m_T := mt_1 229 rfl rfl
theorem w_230 : (Jvm.Cond.methodLink "NeverLike" (79 : Nat) ({ cls := "NeverLike$Reader", name := "read", desc := "()LNeverLike$Text;" } : Jvm.MethodName)) ∈ m_T := mt_1 230 rfl rfl
theorem w_231 : (Jvm.Cond.instanceMethod ({ cls := "NeverLike$Reader", name := "read", desc := "()LNeverLike$Text;" } : Jvm.MethodName)) ∈ m_T := mt_1 231 rfl rfl
theorem w_232 : (Jvm.Cond.selects "NeverLike$Reader" ({ cls := "NeverLike$Reader", name := "read", desc := "()LNeverLike$Text;" } : Jvm.MethodName) ({ cls := "NeverLike$Reader", name := "read", desc := "()LNeverLike$Text;" } : Jvm.MethodName)) ∈ m_T := mt_1 232 rfl rfl
theorem w_233 : (Jvm.Cond.code ({ cls := "NeverLike$Reader", name := "read", desc := "()LNeverLike$Text;" } : Jvm.MethodName) prog_6_method_4_code (4 : Nat) (Option.some (Jvm.ClassFile.FieldType.object "NeverLike$Text"))) ∈ m_T := mt_1 233 rfl rfl
theorem w_234 : (Jvm.Cond.methodLink "NeverLike$Reader" (28 : Nat) ({ cls := "NeverLike$Reader", name := "splitTape", desc := "()V" } : Jvm.MethodName)) ∈ m_T := mt_1 234 rfl rfl
theorem w_236 : (Jvm.Cond.instanceMethod ({ cls := "NeverLike$Reader", name := "splitTape", desc := "()V" } : Jvm.MethodName)) ∈ m_T := mt_1 236 rfl rfl
theorem w_237 : (Jvm.Cond.code ({ cls := "NeverLike$Reader", name := "splitTape", desc := "()V" } : Jvm.MethodName) prog_6_method_15_code (4 : Nat) (Option.none : Option Jvm.ClassFile.FieldType)) ∈ m_T := mt_1 237 rfl rfl
theorem w_238 : (Jvm.Cond.methodLink "NeverLike$Reader" (90 : Nat) ({ cls := "NeverLike$Reader", name := "endOf", desc := "(I)I" } : Jvm.MethodName)) ∈ m_T := mt_1 238 rfl rfl
theorem w_240 : (Jvm.Cond.instanceMethod ({ cls := "NeverLike$Reader", name := "endOf", desc := "(I)I" } : Jvm.MethodName)) ∈ m_T := mt_2 0 rfl rfl
theorem w_241 : (Jvm.Cond.code ({ cls := "NeverLike$Reader", name := "endOf", desc := "(I)I" } : Jvm.MethodName) prog_6_method_16_code (3 : Nat) (Option.some Jvm.ClassFile.FieldType.int)) ∈ m_T := mt_2 1 rfl rfl
theorem w_242 : (Jvm.Cond.methodLink "NeverLike$Reader" (98 : Nat) ({ cls := "NeverLike$Reader", name := "isLetter", desc := "(I)Z" } : Jvm.MethodName)) ∈ m_T := mt_2 2 rfl rfl
theorem w_243 : (Jvm.Cond.static ({ cls := "NeverLike$Reader", name := "isLetter", desc := "(I)Z" } : Jvm.MethodName)) ∈ m_T := mt_2 3 rfl rfl
theorem w_244 : (Jvm.Cond.code ({ cls := "NeverLike$Reader", name := "isLetter", desc := "(I)Z" } : Jvm.MethodName) prog_6_method_17_code (1 : Nat) (Option.some Jvm.ClassFile.FieldType.boolean)) ∈ m_T := mt_2 4 rfl rfl
theorem w_245 : (Jvm.Cond.methodLink "NeverLike$Reader" (101 : Nat) ({ cls := "NeverLike$Reader", name := "isDigit", desc := "(I)Z" } : Jvm.MethodName)) ∈ m_T := mt_2 5 rfl rfl
theorem w_246 : (Jvm.Cond.static ({ cls := "NeverLike$Reader", name := "isDigit", desc := "(I)Z" } : Jvm.MethodName)) ∈ m_T := mt_2 6 rfl rfl
theorem w_247 : (Jvm.Cond.code ({ cls := "NeverLike$Reader", name := "isDigit", desc := "(I)Z" } : Jvm.MethodName) prog_6_method_18_code (1 : Nat) (Option.some Jvm.ClassFile.FieldType.boolean)) ∈ m_T := mt_2 7 rfl rfl
theorem w_248 : (Jvm.Cond.methodLink "NeverLike$Reader" (94 : Nat) ({ cls := "NeverLike$Reader", name := "tokenOf", desc := "(II)I" } : Jvm.MethodName)) ∈ m_T := mt_2 8 rfl rfl
theorem w_250 : (Jvm.Cond.instanceMethod ({ cls := "NeverLike$Reader", name := "tokenOf", desc := "(II)I" } : Jvm.MethodName)) ∈ m_T := mt_2 10 rfl rfl
theorem w_251 : (Jvm.Cond.code ({ cls := "NeverLike$Reader", name := "tokenOf", desc := "(II)I" } : Jvm.MethodName) prog_6_method_19_code (4 : Nat) (Option.some Jvm.ClassFile.FieldType.int)) ∈ m_T := mt_2 11 rfl rfl
theorem w_252 : (Jvm.Cond.methodLink "NeverLike$Reader" (104 : Nat) ({ cls := "NeverLike$Reader", name := "keyOf", desc := "(II)I" } : Jvm.MethodName)) ∈ m_T := mt_2 12 rfl rfl
theorem w_254 : (Jvm.Cond.instanceMethod ({ cls := "NeverLike$Reader", name := "keyOf", desc := "(II)I" } : Jvm.MethodName)) ∈ m_T := mt_2 14 rfl rfl
theorem w_255 : (Jvm.Cond.code ({ cls := "NeverLike$Reader", name := "keyOf", desc := "(II)I" } : Jvm.MethodName) prog_6_method_21_code (3 : Nat) (Option.some Jvm.ClassFile.FieldType.int)) ∈ m_T := mt_2 15 rfl rfl
theorem w_257 : (Jvm.Cond.methodLink "NeverLike$Reader" (118 : Nat) ({ cls := "NeverLike$Reader", name := "isWord", desc := "(Ljava/lang/String;II)Z" } : Jvm.MethodName)) ∈ m_T := mt_2 17 rfl rfl
theorem w_259 : (Jvm.Cond.instanceMethod ({ cls := "NeverLike$Reader", name := "isWord", desc := "(Ljava/lang/String;II)Z" } : Jvm.MethodName)) ∈ m_T := mt_2 19 rfl rfl
theorem w_260 : (Jvm.Cond.code ({ cls := "NeverLike$Reader", name := "isWord", desc := "(Ljava/lang/String;II)Z" } : Jvm.MethodName) prog_6_method_23_code (5 : Nat) (Option.some Jvm.ClassFile.FieldType.boolean)) ∈ m_T := mt_2 20 rfl rfl
theorem w_261 : (Jvm.Cond.methodLink "NeverLike$Reader" (144 : Nat) ({ cls := "java/lang/String", name := "length", desc := "()I" } : Jvm.MethodName)) ∈ m_T := mt_2 21 rfl rfl
theorem w_262 : (Jvm.Cond.methodLink "NeverLike$Reader" (150 : Nat) ({ cls := "java/lang/String", name := "charAt", desc := "(I)C" } : Jvm.MethodName)) ∈ m_T := mt_2 22 rfl rfl
theorem w_268 : (Jvm.Cond.methodLink "NeverLike$Reader" (107 : Nat) ({ cls := "NeverLike$Reader", name := "nameOf", desc := "(II)I" } : Jvm.MethodName)) ∈ m_T := mt_2 28 rfl rfl
theorem w_270 : (Jvm.Cond.instanceMethod ({ cls := "NeverLike$Reader", name := "nameOf", desc := "(II)I" } : Jvm.MethodName)) ∈ m_T := mt_2 30 rfl rfl
theorem w_271 : (Jvm.Cond.code ({ cls := "NeverLike$Reader", name := "nameOf", desc := "(II)I" } : Jvm.MethodName) prog_6_method_22_code (3 : Nat) (Option.some Jvm.ClassFile.FieldType.int)) ∈ m_T := mt_2 31 rfl rfl
theorem w_278 : (Jvm.Cond.methodLink "NeverLike$Reader" (110 : Nat) ({ cls := "NeverLike$Reader", name := "numberOf", desc := "(II)I" } : Jvm.MethodName)) ∈ m_T := mt_2 38 rfl rfl
theorem w_280 : (Jvm.Cond.instanceMethod ({ cls := "NeverLike$Reader", name := "numberOf", desc := "(II)I" } : Jvm.MethodName)) ∈ m_T := mt_2 40 rfl rfl
theorem w_281 : (Jvm.Cond.code ({ cls := "NeverLike$Reader", name := "numberOf", desc := "(II)I" } : Jvm.MethodName) prog_6_method_20_code (5 : Nat) (Option.some Jvm.ClassFile.FieldType.int)) ∈ m_T := mt_2 41 rfl rfl
theorem w_282 : (Jvm.Cond.methodLink "NeverLike$Reader" (113 : Nat) ({ cls := "NeverLike$Reader", name := "signOf", desc := "(I)I" } : Jvm.MethodName)) ∈ m_T := mt_2 42 rfl rfl
theorem w_283 : (Jvm.Cond.static ({ cls := "NeverLike$Reader", name := "signOf", desc := "(I)I" } : Jvm.MethodName)) ∈ m_T := mt_2 43 rfl rfl
theorem w_284 : (Jvm.Cond.code ({ cls := "NeverLike$Reader", name := "signOf", desc := "(I)I" } : Jvm.MethodName) prog_6_method_24_code (1 : Nat) (Option.some Jvm.ClassFile.FieldType.int)) ∈ m_T := mt_2 44 rfl rfl
theorem w_285 : (Jvm.Cond.methodLink "NeverLike$Reader" (43 : Nat) ({ cls := "NeverLike$Reader", name := "readClause", desc := "(I)V" } : Jvm.MethodName)) ∈ m_T := mt_2 45 rfl rfl
theorem w_287 : (Jvm.Cond.instanceMethod ({ cls := "NeverLike$Reader", name := "readClause", desc := "(I)V" } : Jvm.MethodName)) ∈ m_T := mt_2 47 rfl rfl
theorem w_288 : (Jvm.Cond.code ({ cls := "NeverLike$Reader", name := "readClause", desc := "(I)V" } : Jvm.MethodName) prog_6_method_5_code (2 : Nat) (Option.none : Option Jvm.ClassFile.FieldType)) ∈ m_T := mt_2 48 rfl rfl
theorem w_289 : (Jvm.Cond.methodLink "NeverLike$Reader" (64 : Nat) ({ cls := "NeverLike$Reader", name := "expect", desc := "(I)V" } : Jvm.MethodName)) ∈ m_T := mt_2 49 rfl rfl
theorem w_291 : (Jvm.Cond.instanceMethod ({ cls := "NeverLike$Reader", name := "expect", desc := "(I)V" } : Jvm.MethodName)) ∈ m_T := mt_2 51 rfl rfl
theorem w_292 : (Jvm.Cond.code ({ cls := "NeverLike$Reader", name := "expect", desc := "(I)V" } : Jvm.MethodName) prog_6_method_6_code (2 : Nat) (Option.none : Option Jvm.ClassFile.FieldType)) ∈ m_T := mt_2 52 rfl rfl
theorem w_293 : (Jvm.Cond.methodLink "NeverLike$Reader" (71 : Nat) ({ cls := "NeverLike$Reader", name := "advance", desc := "()V" } : Jvm.MethodName)) ∈ m_T := mt_2 53 rfl rfl
theorem w_295 : (Jvm.Cond.instanceMethod ({ cls := "NeverLike$Reader", name := "advance", desc := "()V" } : Jvm.MethodName)) ∈ m_T := mt_2 55 rfl rfl
theorem w_296 : (Jvm.Cond.code ({ cls := "NeverLike$Reader", name := "advance", desc := "()V" } : Jvm.MethodName) prog_6_method_7_code (1 : Nat) (Option.none : Option Jvm.ClassFile.FieldType)) ∈ m_T := mt_2 56 rfl rfl
theorem w_297 : (Jvm.Cond.methodLink "NeverLike$Reader" (47 : Nat) ({ cls := "NeverLike$Reader", name := "fail", desc := "()V" } : Jvm.MethodName)) ∈ m_T := mt_2 57 rfl rfl
theorem w_299 : (Jvm.Cond.instanceMethod ({ cls := "NeverLike$Reader", name := "fail", desc := "()V" } : Jvm.MethodName)) ∈ m_T := mt_2 59 rfl rfl
theorem w_300 : (Jvm.Cond.code ({ cls := "NeverLike$Reader", name := "fail", desc := "()V" } : Jvm.MethodName) prog_6_method_8_code (1 : Nat) (Option.none : Option Jvm.ClassFile.FieldType)) ∈ m_T := mt_2 60 rfl rfl
theorem w_301 : (Jvm.Cond.methodLink "NeverLike$Reader" (67 : Nat) ({ cls := "NeverLike$Reader", name := "readLevel", desc := "(II)V" } : Jvm.MethodName)) ∈ m_T := mt_2 61 rfl rfl
theorem w_303 : (Jvm.Cond.instanceMethod ({ cls := "NeverLike$Reader", name := "readLevel", desc := "(II)V" } : Jvm.MethodName)) ∈ m_T := mt_2 63 rfl rfl
theorem w_304 : (Jvm.Cond.code ({ cls := "NeverLike$Reader", name := "readLevel", desc := "(II)V" } : Jvm.MethodName) prog_6_method_10_code (5 : Nat) (Option.none : Option Jvm.ClassFile.FieldType)) ∈ m_T := mt_2 64 rfl rfl
theorem w_305 : (Jvm.Cond.methodLink "NeverLike$Reader" (74 : Nat) ({ cls := "NeverLike$Reader", name := "readNot", desc := "(I)V" } : Jvm.MethodName)) ∈ m_T := mt_2 65 rfl rfl
theorem w_307 : (Jvm.Cond.instanceMethod ({ cls := "NeverLike$Reader", name := "readNot", desc := "(I)V" } : Jvm.MethodName)) ∈ m_T := mt_2 67 rfl rfl
theorem w_308 : (Jvm.Cond.code ({ cls := "NeverLike$Reader", name := "readNot", desc := "(I)V" } : Jvm.MethodName) prog_6_method_12_code (3 : Nat) (Option.none : Option Jvm.ClassFile.FieldType)) ∈ m_T := mt_2 68 rfl rfl
theorem w_309 : (Jvm.Cond.methodLink "NeverLike$Reader" (87 : Nat) ({ cls := "NeverLike$Reader", name := "opens", desc := "(I)Z" } : Jvm.MethodName)) ∈ m_T := mt_2 69 rfl rfl
theorem w_311 : (Jvm.Cond.instanceMethod ({ cls := "NeverLike$Reader", name := "opens", desc := "(I)Z" } : Jvm.MethodName)) ∈ m_T := mt_2 71 rfl rfl
theorem w_312 : (Jvm.Cond.code ({ cls := "NeverLike$Reader", name := "opens", desc := "(I)Z" } : Jvm.MethodName) prog_6_method_14_code (2 : Nat) (Option.some Jvm.ClassFile.FieldType.boolean)) ∈ m_T := mt_2 72 rfl rfl
theorem w_313 : (Jvm.Cond.methodLink "NeverLike$Reader" (84 : Nat) ({ cls := "NeverLike$Reader", name := "write", desc := "(I)V" } : Jvm.MethodName)) ∈ m_T := mt_2 73 rfl rfl
theorem w_315 : (Jvm.Cond.instanceMethod ({ cls := "NeverLike$Reader", name := "write", desc := "(I)V" } : Jvm.MethodName)) ∈ m_T := mt_2 75 rfl rfl
theorem w_316 : (Jvm.Cond.code ({ cls := "NeverLike$Reader", name := "write", desc := "(I)V" } : Jvm.MethodName) prog_6_method_9_code (2 : Nat) (Option.none : Option Jvm.ClassFile.FieldType)) ∈ m_T := mt_2 76 rfl rfl
theorem w_317 : (Jvm.Cond.methodLink "NeverLike$Reader" (77 : Nat) ({ cls := "NeverLike$Reader", name := "readOne", desc := "(I)V" } : Jvm.MethodName)) ∈ m_T := mt_2 77 rfl rfl
theorem w_319 : (Jvm.Cond.instanceMethod ({ cls := "NeverLike$Reader", name := "readOne", desc := "(I)V" } : Jvm.MethodName)) ∈ m_T := mt_2 79 rfl rfl
theorem w_320 : (Jvm.Cond.code ({ cls := "NeverLike$Reader", name := "readOne", desc := "(I)V" } : Jvm.MethodName) prog_6_method_13_code (2 : Nat) (Option.none : Option Jvm.ClassFile.FieldType)) ∈ m_T := mt_2 80 rfl rfl
theorem w_321 : (Jvm.Cond.methodLink "NeverLike$Reader" (80 : Nat) ({ cls := "NeverLike$Reader", name := "joins", desc := "(I)Z" } : Jvm.MethodName)) ∈ m_T := mt_2 81 rfl rfl
theorem w_323 : (Jvm.Cond.instanceMethod ({ cls := "NeverLike$Reader", name := "joins", desc := "(I)Z" } : Jvm.MethodName)) ∈ m_T := mt_2 83 rfl rfl
theorem w_324 : (Jvm.Cond.code ({ cls := "NeverLike$Reader", name := "joins", desc := "(I)Z" } : Jvm.MethodName) prog_6_method_11_code (2 : Nat) (Option.some Jvm.ClassFile.FieldType.boolean)) ∈ m_T := mt_2 84 rfl rfl
theorem w_325 : (Jvm.Cond.methodLink "NeverLike$Reader" (50 : Nat) ({ cls := "NeverLike$Reader", name := "empty", desc := "()V" } : Jvm.MethodName)) ∈ m_T := mt_2 85 rfl rfl
theorem w_326 : (Jvm.Cond.instanceMethod ({ cls := "NeverLike$Reader", name := "empty", desc := "()V" } : Jvm.MethodName)) ∈ m_T := mt_2 86 rfl rfl
theorem w_327 : (Jvm.Cond.selects "NeverLike$Reader" ({ cls := "NeverLike$Reader", name := "empty", desc := "()V" } : Jvm.MethodName) ({ cls := "NeverLike$Reader", name := "empty", desc := "()V" } : Jvm.MethodName)) ∈ m_T := mt_2 87 rfl rfl
theorem w_328 : (Jvm.Cond.code ({ cls := "NeverLike$Reader", name := "empty", desc := "()V" } : Jvm.MethodName) prog_6_method_3_code (1 : Nat) (Option.none : Option Jvm.ClassFile.FieldType)) ∈ m_T := mt_2 88 rfl rfl
theorem w_329 : (Jvm.Cond.methodLink "NeverLike$Reader" (53 : Nat) ({ cls := "java/lang/System", name := "arraycopy", desc := "(Ljava/lang/Object;ILjava/lang/Object;II)V" } : Jvm.MethodName)) ∈ m_T := mt_2 89 rfl rfl
theorem w_330 : (Jvm.Cond.static ({ cls := "java/lang/System", name := "arraycopy", desc := "(Ljava/lang/Object;ILjava/lang/Object;II)V" } : Jvm.MethodName)) ∈ m_T := mt_2 90 rfl rfl
theorem w_331 : (Jvm.Cond.native ({ cls := "java/lang/System", name := "arraycopy", desc := "(Ljava/lang/Object;ILjava/lang/Object;II)V" } : Jvm.MethodName)) ∈ m_T := mt_2 91 rfl rfl
theorem w_332 : (Jvm.Cond.classLink "NeverLike$Reader" (59 : Nat) "NeverLike$Text") ∈ m_T := mt_2 92 rfl rfl
theorem w_333 : (Jvm.Cond.instantiable "NeverLike$Text" (4 : Nat)) ∈ m_T := mt_2 93 rfl rfl
theorem w_334 : (Jvm.Cond.methodLink "NeverLike$Reader" (61 : Nat) ({ cls := "NeverLike$Text", name := "<init>", desc := "([III)V" } : Jvm.MethodName)) ∈ m_T := mt_2 94 rfl rfl
theorem w_335 : (Jvm.Cond.instanceMethod ({ cls := "NeverLike$Text", name := "<init>", desc := "([III)V" } : Jvm.MethodName)) ∈ m_T := mt_2 95 rfl rfl
theorem w_336 : (Jvm.Cond.code ({ cls := "NeverLike$Text", name := "<init>", desc := "([III)V" } : Jvm.MethodName) prog_11_method_1_code (4 : Nat) (Option.none : Option Jvm.ClassFile.FieldType)) ∈ m_T := mt_2 96 rfl rfl
theorem w_337 : (Jvm.Cond.methodLink "NeverLike$Text" (3 : Nat) ({ cls := "java/lang/Object", name := "<init>", desc := "()V" } : Jvm.MethodName)) ∈ m_T := mt_2 97 rfl rfl
theorem w_338 : (Jvm.Cond.fieldLink "NeverLike$Text" (15 : Nat) "NeverLike$Text" "code" "[I") ∈ m_T := mt_2 98 rfl rfl
theorem w_339 : (Jvm.Cond.fieldLink "NeverLike$Text" (18 : Nat) "NeverLike$Text" "mayEnd" "I") ∈ m_T := mt_2 99 rfl rfl
theorem w_340 : (Jvm.Cond.fieldLink "NeverLike$Text" (22 : Nat) "NeverLike$Text" "feeEnd" "I") ∈ m_T := mt_2 100 rfl rfl
theorem w_341 : (Jvm.Cond.fieldLink "NeverLike$Text" (9 : Nat) "NeverLike$Text" "stack" "[I") ∈ m_T := mt_2 101 rfl rfl
theorem w_351 : (Jvm.Cond.arrayClass Jvm.ClassFile.FieldType.byte) ∈ m_T := mt_2 111 rfl rfl
theorem w_352 : (Jvm.Cond.fieldLink "NeverLike" (10 : Nat) "NeverLike" "now" "LNeverLike$Town;") ∈ m_T := mt_2 112 rfl rfl
theorem w_353 : (Jvm.Cond.fieldLink "NeverLike" (16 : Nat) "NeverLike" "image" "LNeverLike$Town;") ∈ m_T := mt_2 113 rfl rfl
theorem w_354 : (Jvm.Cond.fieldLink "NeverLike" (98 : Nat) "NeverLike" "hasImage" "Z") ∈ m_T := mt_2 114 rfl rfl
theorem w_355 : (Jvm.Cond.fieldLink "NeverLike" (24 : Nat) "NeverLike" "search" "LNeverLike$Search;") ∈ m_T := mt_2 115 rfl rfl
theorem w_356 : (Jvm.Cond.fieldLink "NeverLike" (30 : Nat) "NeverLike" "painters" "[LNeverLike$Painter;") ∈ m_T := mt_2 116 rfl rfl
theorem w_357 : (Jvm.Cond.fieldLink "NeverLike" (148 : Nat) "NeverLike" "painterCount" "I") ∈ m_T := mt_2 117 rfl rfl
theorem w_358 : (Jvm.Cond.fieldLink "NeverLike" (37 : Nat) "NeverLike" "reader" "LNeverLike$Reader;") ∈ m_T := mt_2 118 rfl rfl
theorem w_359 : (Jvm.Cond.fieldLink "NeverLike" (43 : Nat) "NeverLike" "texts" "[LNeverLike$Text;") ∈ m_T := mt_2 119 rfl rfl
theorem w_360 : (Jvm.Cond.fieldLink "NeverLike" (83 : Nat) "NeverLike" "textCount" "I") ∈ m_T := mt_2 120 rfl rfl
theorem w_361 : (Jvm.Cond.fieldLink "NeverLike" (49 : Nat) "NeverLike" "sheets" "[LNeverLike$Sheet;") ∈ m_T := mt_2 121 rfl rfl
theorem w_362 : (Jvm.Cond.fieldLink "NeverLike" (53 : Nat) "NeverLike" "names" "[I") ∈ m_T := mt_2 122 rfl rfl
theorem w_363 : (Jvm.Cond.fieldLink "NeverLike" (57 : Nat) "NeverLike" "joys" "[I") ∈ m_T := mt_2 123 rfl rfl
theorem w_364 : (Jvm.Cond.fieldLink "NeverLike" (60 : Nat) "NeverLike" "trial" "[I") ∈ m_T := mt_2 124 rfl rfl
theorem w_392 : (Jvm.Cond.methodLink "NeverLikeLaw" (13 : Nat) ({ cls := "NeverLike", name := "build", desc := "(II)I" } : Jvm.MethodName)) ∈ m_T := mt_2 152 rfl rfl
theorem w_393 : (Jvm.Cond.instanceMethod ({ cls := "NeverLike", name := "build", desc := "(II)I" } : Jvm.MethodName)) ∈ m_T := mt_2 153 rfl rfl
theorem w_394 : (Jvm.Cond.selects "NeverLike" ({ cls := "NeverLike", name := "build", desc := "(II)I" } : Jvm.MethodName) ({ cls := "NeverLike", name := "build", desc := "(II)I" } : Jvm.MethodName)) ∈ m_T := mt_2 154 rfl rfl
theorem w_395 : (Jvm.Cond.code ({ cls := "NeverLike", name := "build", desc := "(II)I" } : Jvm.MethodName) prog_1_method_2_code (5 : Nat) (Option.some Jvm.ClassFile.FieldType.int)) ∈ m_T := mt_2 155 rfl rfl
theorem w_396 : (Jvm.Cond.methodLink "NeverLike" (87 : Nat) ({ cls := "NeverLike", name := "townsOf", desc := "(II)I" } : Jvm.MethodName)) ∈ m_T := mt_2 156 rfl rfl
theorem w_397 : (Jvm.Cond.methodLink "NeverLike" (94 : Nat) ({ cls := "NeverLike$Town", name := "lay", desc := "(II)V" } : Jvm.MethodName)) ∈ m_T := mt_2 157 rfl rfl
theorem w_398 : (Jvm.Cond.methodLink "NeverLike" (102 : Nat) ({ cls := "NeverLike$Reader", name := "empty", desc := "()V" } : Jvm.MethodName)) ∈ m_T := mt_2 158 rfl rfl
theorem w_399 : (Jvm.Cond.methodLink "NeverLike" (105 : Nat) ({ cls := "NeverLike$Search", name := "forget", desc := "()V" } : Jvm.MethodName)) ∈ m_T := mt_2 159 rfl rfl
theorem w_400 : (Jvm.Cond.instanceMethod ({ cls := "NeverLike$Search", name := "forget", desc := "()V" } : Jvm.MethodName)) ∈ m_T := mt_2 160 rfl rfl
theorem w_401 : (Jvm.Cond.selects "NeverLike$Search" ({ cls := "NeverLike$Search", name := "forget", desc := "()V" } : Jvm.MethodName) ({ cls := "NeverLike$Search", name := "forget", desc := "()V" } : Jvm.MethodName)) ∈ m_T := mt_2 161 rfl rfl
theorem w_402 : (Jvm.Cond.code ({ cls := "NeverLike$Search", name := "forget", desc := "()V" } : Jvm.MethodName) prog_7_method_2_code (1 : Nat) (Option.none : Option Jvm.ClassFile.FieldType)) ∈ m_T := mt_2 162 rfl rfl
theorem w_403 : (Jvm.Cond.methodLink "NeverLikeLaw" (18 : Nat) ({ cls := "NeverLike", name := "touch", desc := "(III)I" } : Jvm.MethodName)) ∈ m_T := mt_2 163 rfl rfl
theorem w_404 : (Jvm.Cond.instanceMethod ({ cls := "NeverLike", name := "touch", desc := "(III)I" } : Jvm.MethodName)) ∈ m_T := mt_2 164 rfl rfl
theorem w_405 : (Jvm.Cond.selects "NeverLike" ({ cls := "NeverLike", name := "touch", desc := "(III)I" } : Jvm.MethodName) ({ cls := "NeverLike", name := "touch", desc := "(III)I" } : Jvm.MethodName)) ∈ m_T := mt_2 165 rfl rfl
theorem w_406 : (Jvm.Cond.code ({ cls := "NeverLike", name := "touch", desc := "(III)I" } : Jvm.MethodName) prog_1_method_3_code (5 : Nat) (Option.some Jvm.ClassFile.FieldType.int)) ∈ m_T := mt_2 166 rfl rfl
theorem w_407 : (Jvm.Cond.methodLink "NeverLike" (108 : Nat) ({ cls := "NeverLike$Town", name := "areTwo", desc := "(II)Z" } : Jvm.MethodName)) ∈ m_T := mt_2 167 rfl rfl
theorem w_408 : (Jvm.Cond.instanceMethod ({ cls := "NeverLike$Town", name := "areTwo", desc := "(II)Z" } : Jvm.MethodName)) ∈ m_T := mt_2 168 rfl rfl
theorem w_409 : (Jvm.Cond.selects "NeverLike$Town" ({ cls := "NeverLike$Town", name := "areTwo", desc := "(II)Z" } : Jvm.MethodName) ({ cls := "NeverLike$Town", name := "areTwo", desc := "(II)Z" } : Jvm.MethodName)) ∈ m_T := mt_2 169 rfl rfl
theorem w_410 : (Jvm.Cond.code ({ cls := "NeverLike$Town", name := "areTwo", desc := "(II)Z" } : Jvm.MethodName) prog_12_method_6_code (3 : Nat) (Option.some Jvm.ClassFile.FieldType.boolean)) ∈ m_T := mt_2 170 rfl rfl
theorem w_411 : (Jvm.Cond.methodLink "NeverLike$Town" (58 : Nat) ({ cls := "NeverLike$Town", name := "isHouse", desc := "(I)Z" } : Jvm.MethodName)) ∈ m_T := mt_2 171 rfl rfl
theorem w_412 : (Jvm.Cond.instanceMethod ({ cls := "NeverLike$Town", name := "isHouse", desc := "(I)Z" } : Jvm.MethodName)) ∈ m_T := mt_2 172 rfl rfl
theorem w_413 : (Jvm.Cond.selects "NeverLike$Town" ({ cls := "NeverLike$Town", name := "isHouse", desc := "(I)Z" } : Jvm.MethodName) ({ cls := "NeverLike$Town", name := "isHouse", desc := "(I)Z" } : Jvm.MethodName)) ∈ m_T := mt_2 173 rfl rfl
theorem w_414 : (Jvm.Cond.code ({ cls := "NeverLike$Town", name := "isHouse", desc := "(I)Z" } : Jvm.MethodName) prog_12_method_5_code (2 : Nat) (Option.some Jvm.ClassFile.FieldType.boolean)) ∈ m_T := mt_2 174 rfl rfl
theorem w_415 : (Jvm.Cond.methodLink "NeverLike" (112 : Nat) ({ cls := "NeverLike", name := "isFlag", desc := "(I)Z" } : Jvm.MethodName)) ∈ m_T := mt_2 175 rfl rfl
theorem w_416 : (Jvm.Cond.static ({ cls := "NeverLike", name := "isFlag", desc := "(I)Z" } : Jvm.MethodName)) ∈ m_T := mt_2 176 rfl rfl
theorem w_417 : (Jvm.Cond.code ({ cls := "NeverLike", name := "isFlag", desc := "(I)Z" } : Jvm.MethodName) prog_1_method_35_code (1 : Nat) (Option.some Jvm.ClassFile.FieldType.boolean)) ∈ m_T := mt_2 177 rfl rfl
theorem w_418 : (Jvm.Cond.methodLink "NeverLike" (118 : Nat) ({ cls := "NeverLike$Town", name := "link", desc := "(IIZ)V" } : Jvm.MethodName)) ∈ m_T := mt_2 178 rfl rfl
theorem w_419 : (Jvm.Cond.methodLink "NeverLikeLaw" (23 : Nat) ({ cls := "NeverLike", name := "set", desc := "(III)I" } : Jvm.MethodName)) ∈ m_T := mt_2 179 rfl rfl
theorem w_420 : (Jvm.Cond.instanceMethod ({ cls := "NeverLike", name := "set", desc := "(III)I" } : Jvm.MethodName)) ∈ m_T := mt_2 180 rfl rfl
theorem w_421 : (Jvm.Cond.selects "NeverLike" ({ cls := "NeverLike", name := "set", desc := "(III)I" } : Jvm.MethodName) ({ cls := "NeverLike", name := "set", desc := "(III)I" } : Jvm.MethodName)) ∈ m_T := mt_2 181 rfl rfl
theorem w_422 : (Jvm.Cond.code ({ cls := "NeverLike", name := "set", desc := "(III)I" } : Jvm.MethodName) prog_1_method_4_code (5 : Nat) (Option.some Jvm.ClassFile.FieldType.int)) ∈ m_T := mt_2 182 rfl rfl
theorem w_423 : (Jvm.Cond.methodLink "NeverLike" (122 : Nat) ({ cls := "NeverLike", name := "isWithin", desc := "(II)Z" } : Jvm.MethodName)) ∈ m_T := mt_2 183 rfl rfl
theorem w_424 : (Jvm.Cond.static ({ cls := "NeverLike", name := "isWithin", desc := "(II)Z" } : Jvm.MethodName)) ∈ m_T := mt_2 184 rfl rfl
theorem w_425 : (Jvm.Cond.code ({ cls := "NeverLike", name := "isWithin", desc := "(II)Z" } : Jvm.MethodName) prog_1_method_34_code (2 : Nat) (Option.some Jvm.ClassFile.FieldType.boolean)) ∈ m_T := mt_2 185 rfl rfl
theorem w_426 : (Jvm.Cond.methodLink "NeverLike" (125 : Nat) ({ cls := "NeverLike", name := "isSettable", desc := "(III)Z" } : Jvm.MethodName)) ∈ m_T := mt_2 186 rfl rfl
theorem w_428 : (Jvm.Cond.instanceMethod ({ cls := "NeverLike", name := "isSettable", desc := "(III)Z" } : Jvm.MethodName)) ∈ m_T := mt_2 188 rfl rfl
theorem w_429 : (Jvm.Cond.code ({ cls := "NeverLike", name := "isSettable", desc := "(III)Z" } : Jvm.MethodName) prog_1_method_38_code (4 : Nat) (Option.some Jvm.ClassFile.FieldType.boolean)) ∈ m_T := mt_2 189 rfl rfl
theorem w_430 : (Jvm.Cond.methodLink "NeverLike" (145 : Nat) ({ cls := "NeverLike$Town", name := "isHouse", desc := "(I)Z" } : Jvm.MethodName)) ∈ m_T := mt_2 190 rfl rfl
theorem w_431 : (Jvm.Cond.methodLink "NeverLike" (159 : Nat) ({ cls := "NeverLike$Town", name := "isColour", desc := "(I)Z" } : Jvm.MethodName)) ∈ m_T := mt_2 191 rfl rfl
theorem w_432 : (Jvm.Cond.instanceMethod ({ cls := "NeverLike$Town", name := "isColour", desc := "(I)Z" } : Jvm.MethodName)) ∈ m_T := mt_2 192 rfl rfl
theorem w_433 : (Jvm.Cond.selects "NeverLike$Town" ({ cls := "NeverLike$Town", name := "isColour", desc := "(I)Z" } : Jvm.MethodName) ({ cls := "NeverLike$Town", name := "isColour", desc := "(I)Z" } : Jvm.MethodName)) ∈ m_T := mt_2 193 rfl rfl
theorem w_434 : (Jvm.Cond.code ({ cls := "NeverLike$Town", name := "isColour", desc := "(I)Z" } : Jvm.MethodName) prog_12_method_7_code (2 : Nat) (Option.some Jvm.ClassFile.FieldType.boolean)) ∈ m_T := mt_2 194 rfl rfl
theorem w_435 : (Jvm.Cond.methodLink "NeverLike" (135 : Nat) ({ cls := "NeverLike$Town", name := "keepBit", desc := "(I)I" } : Jvm.MethodName)) ∈ m_T := mt_2 195 rfl rfl
theorem w_436 : (Jvm.Cond.instanceMethod ({ cls := "NeverLike$Town", name := "keepBit", desc := "(I)I" } : Jvm.MethodName)) ∈ m_T := mt_2 196 rfl rfl
theorem w_437 : (Jvm.Cond.selects "NeverLike$Town" ({ cls := "NeverLike$Town", name := "keepBit", desc := "(I)I" } : Jvm.MethodName) ({ cls := "NeverLike$Town", name := "keepBit", desc := "(I)I" } : Jvm.MethodName)) ∈ m_T := mt_2 197 rfl rfl
theorem w_438 : (Jvm.Cond.code ({ cls := "NeverLike$Town", name := "keepBit", desc := "(I)I" } : Jvm.MethodName) prog_12_method_9_code (2 : Nat) (Option.some Jvm.ClassFile.FieldType.int)) ∈ m_T := mt_2 198 rfl rfl
theorem w_439 : (Jvm.Cond.methodLink "NeverLikeLaw" (27 : Nat) ({ cls := "NeverLike", name := "told", desc := "(II)I" } : Jvm.MethodName)) ∈ m_T := mt_2 199 rfl rfl
theorem w_440 : (Jvm.Cond.instanceMethod ({ cls := "NeverLike", name := "told", desc := "(II)I" } : Jvm.MethodName)) ∈ m_T := mt_2 200 rfl rfl
theorem w_441 : (Jvm.Cond.selects "NeverLike" ({ cls := "NeverLike", name := "told", desc := "(II)I" } : Jvm.MethodName) ({ cls := "NeverLike", name := "told", desc := "(II)I" } : Jvm.MethodName)) ∈ m_T := mt_2 201 rfl rfl
theorem w_442 : (Jvm.Cond.code ({ cls := "NeverLike", name := "told", desc := "(II)I" } : Jvm.MethodName) prog_1_method_5_code (3 : Nat) (Option.some Jvm.ClassFile.FieldType.int)) ∈ m_T := mt_2 202 rfl rfl
theorem w_443 : (Jvm.Cond.methodLink "NeverLikeLaw" (31 : Nat) ({ cls := "NeverLike", name := "painter", desc := "(II)I" } : Jvm.MethodName)) ∈ m_T := mt_2 203 rfl rfl
theorem w_444 : (Jvm.Cond.instanceMethod ({ cls := "NeverLike", name := "painter", desc := "(II)I" } : Jvm.MethodName)) ∈ m_T := mt_2 204 rfl rfl
theorem w_445 : (Jvm.Cond.selects "NeverLike" ({ cls := "NeverLike", name := "painter", desc := "(II)I" } : Jvm.MethodName) ({ cls := "NeverLike", name := "painter", desc := "(II)I" } : Jvm.MethodName)) ∈ m_T := mt_2 205 rfl rfl
theorem w_446 : (Jvm.Cond.code ({ cls := "NeverLike", name := "painter", desc := "(II)I" } : Jvm.MethodName) prog_1_method_6_code (3 : Nat) (Option.some Jvm.ClassFile.FieldType.int)) ∈ m_T := mt_2 206 rfl rfl
theorem w_447 : (Jvm.Cond.methodLink "NeverLike" (151 : Nat) ({ cls := "NeverLike", name := "newPainter", desc := "(II)LNeverLike$Painter;" } : Jvm.MethodName)) ∈ m_T := mt_2 207 rfl rfl
theorem w_448 : (Jvm.Cond.static ({ cls := "NeverLike", name := "newPainter", desc := "(II)LNeverLike$Painter;" } : Jvm.MethodName)) ∈ m_T := mt_2 208 rfl rfl
theorem w_449 : (Jvm.Cond.code ({ cls := "NeverLike", name := "newPainter", desc := "(II)LNeverLike$Painter;" } : Jvm.MethodName) prog_1_method_40_code (2 : Nat) (Option.some (Jvm.ClassFile.FieldType.object "NeverLike$Painter"))) ∈ m_T := mt_2 209 rfl rfl
theorem w_450 : (Jvm.Cond.classLink "NeverLike" (301 : Nat) "NeverLike$Steep") ∈ m_T := mt_2 210 rfl rfl
theorem w_451 : (Jvm.Cond.instantiable "NeverLike$Steep" (2 : Nat)) ∈ m_T := mt_2 211 rfl rfl
theorem w_452 : (Jvm.Cond.methodLink "NeverLike" (303 : Nat) ({ cls := "NeverLike$Steep", name := "<init>", desc := "(I)V" } : Jvm.MethodName)) ∈ m_T := mt_2 212 rfl rfl
theorem w_453 : (Jvm.Cond.instanceMethod ({ cls := "NeverLike$Steep", name := "<init>", desc := "(I)V" } : Jvm.MethodName)) ∈ m_T := mt_2 213 rfl rfl
theorem w_454 : (Jvm.Cond.code ({ cls := "NeverLike$Steep", name := "<init>", desc := "(I)V" } : Jvm.MethodName) prog_10_method_1_code (2 : Nat) (Option.none : Option Jvm.ClassFile.FieldType)) ∈ m_T := mt_2 214 rfl rfl
theorem w_455 : (Jvm.Cond.methodLink "NeverLike$Steep" (1 : Nat) ({ cls := "NeverLike$Painter", name := "<init>", desc := "(I)V" } : Jvm.MethodName)) ∈ m_T := mt_2 215 rfl rfl
theorem w_456 : (Jvm.Cond.instanceMethod ({ cls := "NeverLike$Painter", name := "<init>", desc := "(I)V" } : Jvm.MethodName)) ∈ m_T := mt_2 216 rfl rfl
theorem w_457 : (Jvm.Cond.code ({ cls := "NeverLike$Painter", name := "<init>", desc := "(I)V" } : Jvm.MethodName) prog_5_method_1_code (2 : Nat) (Option.none : Option Jvm.ClassFile.FieldType)) ∈ m_T := mt_2 217 rfl rfl
theorem w_458 : (Jvm.Cond.methodLink "NeverLike$Painter" (1 : Nat) ({ cls := "java/lang/Object", name := "<init>", desc := "()V" } : Jvm.MethodName)) ∈ m_T := mt_2 218 rfl rfl
theorem w_459 : (Jvm.Cond.fieldLink "NeverLike$Painter" (7 : Nat) "NeverLike$Painter" "number" "I") ∈ m_T := mt_2 219 rfl rfl
theorem w_460 : (Jvm.Cond.fieldLink "NeverLike$Moody" (11 : Nat) "NeverLike$Moody" "number" "I") ∈ m_T := mt_2 220 rfl rfl
theorem w_461 : (Jvm.Cond.sameField "NeverLike$Moody" "NeverLike$Painter" "number" "I") ∈ m_T := mt_2 221 rfl rfl
theorem w_462 : (Jvm.Cond.fieldLink "NeverLike$Shy" (13 : Nat) "NeverLike$Shy" "number" "I") ∈ m_T := mt_2 222 rfl rfl
theorem w_463 : (Jvm.Cond.sameField "NeverLike$Shy" "NeverLike$Painter" "number" "I") ∈ m_T := mt_2 223 rfl rfl
theorem w_464 : (Jvm.Cond.fieldLink "NeverLike" (298 : Nat) "NeverLike$Painter" "number" "I") ∈ m_T := mt_2 224 rfl rfl
theorem w_465 : (Jvm.Cond.fieldLink "NeverLike$Painter" (13 : Nat) "NeverLike$Painter" "plainCosts" "I") ∈ m_T := mt_2 225 rfl rfl
theorem w_466 : (Jvm.Cond.fieldLink "NeverLike$Shy" (7 : Nat) "NeverLike$Shy" "plainCosts" "I") ∈ m_T := mt_2 226 rfl rfl
theorem w_467 : (Jvm.Cond.sameField "NeverLike$Shy" "NeverLike$Painter" "plainCosts" "I") ∈ m_T := mt_2 227 rfl rfl
theorem w_468 : (Jvm.Cond.fieldLink "NeverLike$Steep" (7 : Nat) "NeverLike$Steep" "plainCosts" "I") ∈ m_T := mt_2 228 rfl rfl
theorem w_469 : (Jvm.Cond.sameField "NeverLike$Steep" "NeverLike$Painter" "plainCosts" "I") ∈ m_T := mt_2 229 rfl rfl
theorem w_475 : (Jvm.Cond.classLink "NeverLike" (305 : Nat) "NeverLike$Shy") ∈ m_T := mt_2 235 rfl rfl
theorem w_476 : (Jvm.Cond.instantiable "NeverLike$Shy" (2 : Nat)) ∈ m_T := mt_2 236 rfl rfl
theorem w_477 : (Jvm.Cond.methodLink "NeverLike" (307 : Nat) ({ cls := "NeverLike$Shy", name := "<init>", desc := "(I)V" } : Jvm.MethodName)) ∈ m_T := mt_2 237 rfl rfl
theorem w_478 : (Jvm.Cond.instanceMethod ({ cls := "NeverLike$Shy", name := "<init>", desc := "(I)V" } : Jvm.MethodName)) ∈ m_T := mt_2 238 rfl rfl
theorem w_479 : (Jvm.Cond.code ({ cls := "NeverLike$Shy", name := "<init>", desc := "(I)V" } : Jvm.MethodName) prog_9_method_1_code (2 : Nat) (Option.none : Option Jvm.ClassFile.FieldType)) ∈ m_T := mt_2 239 rfl rfl
theorem w_480 : (Jvm.Cond.methodLink "NeverLike$Shy" (1 : Nat) ({ cls := "NeverLike$Painter", name := "<init>", desc := "(I)V" } : Jvm.MethodName)) ∈ m_T := mt_3 0 rfl rfl
theorem w_484 : (Jvm.Cond.classLink "NeverLike" (308 : Nat) "NeverLike$Moody") ∈ m_T := mt_3 4 rfl rfl
theorem w_485 : (Jvm.Cond.instantiable "NeverLike$Moody" (2 : Nat)) ∈ m_T := mt_3 5 rfl rfl
theorem w_486 : (Jvm.Cond.methodLink "NeverLike" (310 : Nat) ({ cls := "NeverLike$Moody", name := "<init>", desc := "(I)V" } : Jvm.MethodName)) ∈ m_T := mt_3 6 rfl rfl
theorem w_487 : (Jvm.Cond.instanceMethod ({ cls := "NeverLike$Moody", name := "<init>", desc := "(I)V" } : Jvm.MethodName)) ∈ m_T := mt_3 7 rfl rfl
theorem w_488 : (Jvm.Cond.code ({ cls := "NeverLike$Moody", name := "<init>", desc := "(I)V" } : Jvm.MethodName) prog_3_method_1_code (2 : Nat) (Option.none : Option Jvm.ClassFile.FieldType)) ∈ m_T := mt_3 8 rfl rfl
theorem w_489 : (Jvm.Cond.methodLink "NeverLike$Moody" (1 : Nat) ({ cls := "NeverLike$Steep", name := "<init>", desc := "(I)V" } : Jvm.MethodName)) ∈ m_T := mt_3 9 rfl rfl
theorem w_493 : (Jvm.Cond.classLink "NeverLike" (311 : Nat) "NeverLike$Old") ∈ m_T := mt_3 13 rfl rfl
theorem w_494 : (Jvm.Cond.instantiable "NeverLike$Old" (2 : Nat)) ∈ m_T := mt_3 14 rfl rfl
theorem w_495 : (Jvm.Cond.methodLink "NeverLike" (313 : Nat) ({ cls := "NeverLike$Old", name := "<init>", desc := "(I)V" } : Jvm.MethodName)) ∈ m_T := mt_3 15 rfl rfl
theorem w_496 : (Jvm.Cond.instanceMethod ({ cls := "NeverLike$Old", name := "<init>", desc := "(I)V" } : Jvm.MethodName)) ∈ m_T := mt_3 16 rfl rfl
theorem w_497 : (Jvm.Cond.code ({ cls := "NeverLike$Old", name := "<init>", desc := "(I)V" } : Jvm.MethodName) prog_4_method_1_code (2 : Nat) (Option.none : Option Jvm.ClassFile.FieldType)) ∈ m_T := mt_3 17 rfl rfl
theorem w_498 : (Jvm.Cond.methodLink "NeverLike$Old" (1 : Nat) ({ cls := "NeverLike$Shy", name := "<init>", desc := "(I)V" } : Jvm.MethodName)) ∈ m_T := mt_3 18 rfl rfl
theorem w_502 : (Jvm.Cond.classLink "NeverLike" (314 : Nat) "NeverLike$Green") ∈ m_T := mt_3 22 rfl rfl
theorem w_503 : (Jvm.Cond.instantiable "NeverLike$Green" (2 : Nat)) ∈ m_T := mt_3 23 rfl rfl
theorem w_504 : (Jvm.Cond.methodLink "NeverLike" (316 : Nat) ({ cls := "NeverLike$Green", name := "<init>", desc := "(I)V" } : Jvm.MethodName)) ∈ m_T := mt_3 24 rfl rfl
theorem w_505 : (Jvm.Cond.instanceMethod ({ cls := "NeverLike$Green", name := "<init>", desc := "(I)V" } : Jvm.MethodName)) ∈ m_T := mt_3 25 rfl rfl
theorem w_506 : (Jvm.Cond.code ({ cls := "NeverLike$Green", name := "<init>", desc := "(I)V" } : Jvm.MethodName) prog_2_method_1_code (2 : Nat) (Option.none : Option Jvm.ClassFile.FieldType)) ∈ m_T := mt_3 26 rfl rfl
theorem w_507 : (Jvm.Cond.methodLink "NeverLike$Green" (1 : Nat) ({ cls := "NeverLike$Shy", name := "<init>", desc := "(I)V" } : Jvm.MethodName)) ∈ m_T := mt_3 27 rfl rfl
theorem w_511 : (Jvm.Cond.instantiable "NeverLike$Painter" (2 : Nat)) ∈ m_T := mt_3 31 rfl rfl
theorem w_512 : (Jvm.Cond.methodLink "NeverLike" (317 : Nat) ({ cls := "NeverLike$Painter", name := "<init>", desc := "(I)V" } : Jvm.MethodName)) ∈ m_T := mt_3 32 rfl rfl
theorem w_516 : (Jvm.Cond.methodLink "NeverLikeLaw" (35 : Nat) ({ cls := "NeverLike", name := "asks", desc := "(III)I" } : Jvm.MethodName)) ∈ m_T := mt_3 36 rfl rfl
theorem w_517 : (Jvm.Cond.instanceMethod ({ cls := "NeverLike", name := "asks", desc := "(III)I" } : Jvm.MethodName)) ∈ m_T := mt_3 37 rfl rfl
theorem w_518 : (Jvm.Cond.selects "NeverLike" ({ cls := "NeverLike", name := "asks", desc := "(III)I" } : Jvm.MethodName) ({ cls := "NeverLike", name := "asks", desc := "(III)I" } : Jvm.MethodName)) ∈ m_T := mt_3 38 rfl rfl
theorem w_519 : (Jvm.Cond.code ({ cls := "NeverLike", name := "asks", desc := "(III)I" } : Jvm.MethodName) prog_1_method_7_code (8 : Nat) (Option.some Jvm.ClassFile.FieldType.int)) ∈ m_T := mt_3 39 rfl rfl
theorem w_520 : (Jvm.Cond.methodLink "NeverLike" (155 : Nat) ({ cls := "NeverLike", name := "painterOf", desc := "(I)LNeverLike$Painter;" } : Jvm.MethodName)) ∈ m_T := mt_3 40 rfl rfl
theorem w_522 : (Jvm.Cond.instanceMethod ({ cls := "NeverLike", name := "painterOf", desc := "(I)LNeverLike$Painter;" } : Jvm.MethodName)) ∈ m_T := mt_3 42 rfl rfl
theorem w_523 : (Jvm.Cond.code ({ cls := "NeverLike", name := "painterOf", desc := "(I)LNeverLike$Painter;" } : Jvm.MethodName) prog_1_method_39_code (2 : Nat) (Option.some (Jvm.ClassFile.FieldType.object "NeverLike$Painter"))) ∈ m_T := mt_3 43 rfl rfl
theorem w_524 : (Jvm.Cond.methodLink "NeverLike" (162 : Nat) ({ cls := "NeverLike$Painter", name := "will", desc := "(III)Z" } : Jvm.MethodName)) ∈ m_T := mt_3 44 rfl rfl
theorem w_525 : (Jvm.Cond.instanceMethod ({ cls := "NeverLike$Painter", name := "will", desc := "(III)Z" } : Jvm.MethodName)) ∈ m_T := mt_3 45 rfl rfl
theorem w_526 : (Jvm.Cond.selects "NeverLike$Painter" ({ cls := "NeverLike$Painter", name := "will", desc := "(III)Z" } : Jvm.MethodName) ({ cls := "NeverLike$Painter", name := "will", desc := "(III)Z" } : Jvm.MethodName)) ∈ m_T := mt_3 46 rfl rfl
theorem w_527 : (Jvm.Cond.sameMethod "NeverLike$Painter" "NeverLike$Painter" "will" "(III)Z") ∈ m_T := mt_3 47 rfl rfl
theorem w_528 : (Jvm.Cond.selects "NeverLike$Green" ({ cls := "NeverLike$Painter", name := "will", desc := "(III)Z" } : Jvm.MethodName) ({ cls := "NeverLike$Green", name := "will", desc := "(III)Z" } : Jvm.MethodName)) ∈ m_T := mt_3 48 rfl rfl
theorem w_529 : (Jvm.Cond.instanceMethod ({ cls := "NeverLike$Green", name := "will", desc := "(III)Z" } : Jvm.MethodName)) ∈ m_T := mt_3 49 rfl rfl
theorem w_530 : (Jvm.Cond.code ({ cls := "NeverLike$Green", name := "will", desc := "(III)Z" } : Jvm.MethodName) prog_2_method_3_code (4 : Nat) (Option.some Jvm.ClassFile.FieldType.boolean)) ∈ m_T := mt_3 50 rfl rfl
theorem w_531 : (Jvm.Cond.methodLink "NeverLike$Green" (11 : Nat) ({ cls := "NeverLike$Shy", name := "will", desc := "(III)Z" } : Jvm.MethodName)) ∈ m_T := mt_3 51 rfl rfl
theorem w_532 : (Jvm.Cond.instanceMethod ({ cls := "NeverLike$Shy", name := "will", desc := "(III)Z" } : Jvm.MethodName)) ∈ m_T := mt_3 52 rfl rfl
theorem w_533 : (Jvm.Cond.code ({ cls := "NeverLike$Shy", name := "will", desc := "(III)Z" } : Jvm.MethodName) prog_9_method_3_code (4 : Nat) (Option.some Jvm.ClassFile.FieldType.boolean)) ∈ m_T := mt_3 53 rfl rfl
theorem w_534 : (Jvm.Cond.selects "NeverLike$Moody" ({ cls := "NeverLike$Painter", name := "will", desc := "(III)Z" } : Jvm.MethodName) ({ cls := "NeverLike$Moody", name := "will", desc := "(III)Z" } : Jvm.MethodName)) ∈ m_T := mt_3 54 rfl rfl
theorem w_535 : (Jvm.Cond.instanceMethod ({ cls := "NeverLike$Moody", name := "will", desc := "(III)Z" } : Jvm.MethodName)) ∈ m_T := mt_3 55 rfl rfl
theorem w_536 : (Jvm.Cond.code ({ cls := "NeverLike$Moody", name := "will", desc := "(III)Z" } : Jvm.MethodName) prog_3_method_3_code (4 : Nat) (Option.some Jvm.ClassFile.FieldType.boolean)) ∈ m_T := mt_3 56 rfl rfl
theorem w_537 : (Jvm.Cond.selects "NeverLike$Old" ({ cls := "NeverLike$Painter", name := "will", desc := "(III)Z" } : Jvm.MethodName) ({ cls := "NeverLike$Shy", name := "will", desc := "(III)Z" } : Jvm.MethodName)) ∈ m_T := mt_3 57 rfl rfl
theorem w_538 : (Jvm.Cond.selects "NeverLike$Shy" ({ cls := "NeverLike$Painter", name := "will", desc := "(III)Z" } : Jvm.MethodName) ({ cls := "NeverLike$Shy", name := "will", desc := "(III)Z" } : Jvm.MethodName)) ∈ m_T := mt_3 58 rfl rfl
theorem w_539 : (Jvm.Cond.selects "NeverLike$Steep" ({ cls := "NeverLike$Painter", name := "will", desc := "(III)Z" } : Jvm.MethodName) ({ cls := "NeverLike$Painter", name := "will", desc := "(III)Z" } : Jvm.MethodName)) ∈ m_T := mt_3 59 rfl rfl
theorem w_540 : (Jvm.Cond.code ({ cls := "NeverLike$Painter", name := "will", desc := "(III)Z" } : Jvm.MethodName) prog_5_method_3_code (4 : Nat) (Option.some Jvm.ClassFile.FieldType.boolean)) ∈ m_T := mt_3 60 rfl rfl
theorem w_541 : (Jvm.Cond.methodLink "NeverLike" (165 : Nat) ({ cls := "NeverLike$Painter", name := "costs", desc := "(III)I" } : Jvm.MethodName)) ∈ m_T := mt_3 61 rfl rfl
theorem w_542 : (Jvm.Cond.instanceMethod ({ cls := "NeverLike$Painter", name := "costs", desc := "(III)I" } : Jvm.MethodName)) ∈ m_T := mt_3 62 rfl rfl
theorem w_543 : (Jvm.Cond.selects "NeverLike$Painter" ({ cls := "NeverLike$Painter", name := "costs", desc := "(III)I" } : Jvm.MethodName) ({ cls := "NeverLike$Painter", name := "costs", desc := "(III)I" } : Jvm.MethodName)) ∈ m_T := mt_3 63 rfl rfl
theorem w_544 : (Jvm.Cond.sameMethod "NeverLike$Painter" "NeverLike$Painter" "costs" "(III)I") ∈ m_T := mt_3 64 rfl rfl
theorem w_545 : (Jvm.Cond.selects "NeverLike$Green" ({ cls := "NeverLike$Painter", name := "costs", desc := "(III)I" } : Jvm.MethodName) ({ cls := "NeverLike$Green", name := "costs", desc := "(III)I" } : Jvm.MethodName)) ∈ m_T := mt_3 65 rfl rfl
theorem w_546 : (Jvm.Cond.instanceMethod ({ cls := "NeverLike$Green", name := "costs", desc := "(III)I" } : Jvm.MethodName)) ∈ m_T := mt_3 66 rfl rfl
theorem w_547 : (Jvm.Cond.code ({ cls := "NeverLike$Green", name := "costs", desc := "(III)I" } : Jvm.MethodName) prog_2_method_2_code (4 : Nat) (Option.some Jvm.ClassFile.FieldType.int)) ∈ m_T := mt_3 67 rfl rfl
theorem w_548 : (Jvm.Cond.methodLink "NeverLike$Green" (7 : Nat) ({ cls := "NeverLike$Shy", name := "costs", desc := "(III)I" } : Jvm.MethodName)) ∈ m_T := mt_3 68 rfl rfl
theorem w_549 : (Jvm.Cond.instanceMethod ({ cls := "NeverLike$Shy", name := "costs", desc := "(III)I" } : Jvm.MethodName)) ∈ m_T := mt_3 69 rfl rfl
theorem w_550 : (Jvm.Cond.code ({ cls := "NeverLike$Shy", name := "costs", desc := "(III)I" } : Jvm.MethodName) prog_9_method_2_code (4 : Nat) (Option.some Jvm.ClassFile.FieldType.int)) ∈ m_T := mt_3 70 rfl rfl
theorem w_551 : (Jvm.Cond.selects "NeverLike$Moody" ({ cls := "NeverLike$Painter", name := "costs", desc := "(III)I" } : Jvm.MethodName) ({ cls := "NeverLike$Moody", name := "costs", desc := "(III)I" } : Jvm.MethodName)) ∈ m_T := mt_3 71 rfl rfl
theorem w_552 : (Jvm.Cond.instanceMethod ({ cls := "NeverLike$Moody", name := "costs", desc := "(III)I" } : Jvm.MethodName)) ∈ m_T := mt_3 72 rfl rfl
theorem w_553 : (Jvm.Cond.code ({ cls := "NeverLike$Moody", name := "costs", desc := "(III)I" } : Jvm.MethodName) prog_3_method_2_code (4 : Nat) (Option.some Jvm.ClassFile.FieldType.int)) ∈ m_T := mt_3 73 rfl rfl
theorem w_554 : (Jvm.Cond.methodLink "NeverLike$Moody" (7 : Nat) ({ cls := "NeverLike$Steep", name := "costs", desc := "(III)I" } : Jvm.MethodName)) ∈ m_T := mt_3 74 rfl rfl
theorem w_555 : (Jvm.Cond.instanceMethod ({ cls := "NeverLike$Steep", name := "costs", desc := "(III)I" } : Jvm.MethodName)) ∈ m_T := mt_3 75 rfl rfl
theorem w_556 : (Jvm.Cond.code ({ cls := "NeverLike$Steep", name := "costs", desc := "(III)I" } : Jvm.MethodName) prog_10_method_2_code (4 : Nat) (Option.some Jvm.ClassFile.FieldType.int)) ∈ m_T := mt_3 76 rfl rfl
theorem w_557 : (Jvm.Cond.selects "NeverLike$Old" ({ cls := "NeverLike$Painter", name := "costs", desc := "(III)I" } : Jvm.MethodName) ({ cls := "NeverLike$Old", name := "costs", desc := "(III)I" } : Jvm.MethodName)) ∈ m_T := mt_3 77 rfl rfl
theorem w_558 : (Jvm.Cond.instanceMethod ({ cls := "NeverLike$Old", name := "costs", desc := "(III)I" } : Jvm.MethodName)) ∈ m_T := mt_3 78 rfl rfl
theorem w_559 : (Jvm.Cond.code ({ cls := "NeverLike$Old", name := "costs", desc := "(III)I" } : Jvm.MethodName) prog_4_method_2_code (4 : Nat) (Option.some Jvm.ClassFile.FieldType.int)) ∈ m_T := mt_3 79 rfl rfl
theorem w_560 : (Jvm.Cond.methodLink "NeverLike$Old" (7 : Nat) ({ cls := "NeverLike$Shy", name := "costs", desc := "(III)I" } : Jvm.MethodName)) ∈ m_T := mt_3 80 rfl rfl
theorem w_561 : (Jvm.Cond.selects "NeverLike$Shy" ({ cls := "NeverLike$Painter", name := "costs", desc := "(III)I" } : Jvm.MethodName) ({ cls := "NeverLike$Shy", name := "costs", desc := "(III)I" } : Jvm.MethodName)) ∈ m_T := mt_3 81 rfl rfl
theorem w_562 : (Jvm.Cond.selects "NeverLike$Steep" ({ cls := "NeverLike$Painter", name := "costs", desc := "(III)I" } : Jvm.MethodName) ({ cls := "NeverLike$Steep", name := "costs", desc := "(III)I" } : Jvm.MethodName)) ∈ m_T := mt_3 82 rfl rfl
theorem w_563 : (Jvm.Cond.code ({ cls := "NeverLike$Painter", name := "costs", desc := "(III)I" } : Jvm.MethodName) prog_5_method_2_code (4 : Nat) (Option.some Jvm.ClassFile.FieldType.int)) ∈ m_T := mt_3 83 rfl rfl
theorem w_564 : (Jvm.Cond.methodLink "NeverLike" (169 : Nat) ({ cls := "java/lang/Math", name := "max", desc := "(II)I" } : Jvm.MethodName)) ∈ m_T := mt_3 84 rfl rfl
theorem w_565 : (Jvm.Cond.static ({ cls := "java/lang/Math", name := "max", desc := "(II)I" } : Jvm.MethodName)) ∈ m_T := mt_3 85 rfl rfl
theorem w_566 : (Jvm.Cond.code ({ cls := "java/lang/Math", name := "max", desc := "(II)I" } : Jvm.MethodName) prog_16_method_65_code (2 : Nat) (Option.some Jvm.ClassFile.FieldType.int)) ∈ m_T := mt_3 86 rfl rfl
theorem w_567 : (Jvm.Cond.methodLink "NeverLikeLaw" (39 : Nat) ({ cls := "NeverLike", name := "feed", desc := "(I)I" } : Jvm.MethodName)) ∈ m_T := mt_3 87 rfl rfl
theorem w_568 : (Jvm.Cond.instanceMethod ({ cls := "NeverLike", name := "feed", desc := "(I)I" } : Jvm.MethodName)) ∈ m_T := mt_3 88 rfl rfl
theorem w_569 : (Jvm.Cond.selects "NeverLike" ({ cls := "NeverLike", name := "feed", desc := "(I)I" } : Jvm.MethodName) ({ cls := "NeverLike", name := "feed", desc := "(I)I" } : Jvm.MethodName)) ∈ m_T := mt_3 89 rfl rfl
theorem w_570 : (Jvm.Cond.code ({ cls := "NeverLike", name := "feed", desc := "(I)I" } : Jvm.MethodName) prog_1_method_8_code (2 : Nat) (Option.some Jvm.ClassFile.FieldType.int)) ∈ m_T := mt_3 90 rfl rfl
theorem w_571 : (Jvm.Cond.methodLink "NeverLikeLaw" (44 : Nat) ({ cls := "NeverLike", name := "text", desc := "()I" } : Jvm.MethodName)) ∈ m_T := mt_3 91 rfl rfl
theorem w_572 : (Jvm.Cond.instanceMethod ({ cls := "NeverLike", name := "text", desc := "()I" } : Jvm.MethodName)) ∈ m_T := mt_3 92 rfl rfl
theorem w_573 : (Jvm.Cond.selects "NeverLike" ({ cls := "NeverLike", name := "text", desc := "()I" } : Jvm.MethodName) ({ cls := "NeverLike", name := "text", desc := "()I" } : Jvm.MethodName)) ∈ m_T := mt_3 93 rfl rfl
theorem w_574 : (Jvm.Cond.code ({ cls := "NeverLike", name := "text", desc := "()I" } : Jvm.MethodName) prog_1_method_9_code (2 : Nat) (Option.some Jvm.ClassFile.FieldType.int)) ∈ m_T := mt_3 94 rfl rfl
theorem w_575 : (Jvm.Cond.methodLink "NeverLikeLaw" (49 : Nat) ({ cls := "NeverLike", name := "force", desc := "(I)I" } : Jvm.MethodName)) ∈ m_T := mt_3 95 rfl rfl
theorem w_576 : (Jvm.Cond.instanceMethod ({ cls := "NeverLike", name := "force", desc := "(I)I" } : Jvm.MethodName)) ∈ m_T := mt_3 96 rfl rfl
theorem w_577 : (Jvm.Cond.selects "NeverLike" ({ cls := "NeverLike", name := "force", desc := "(I)I" } : Jvm.MethodName) ({ cls := "NeverLike", name := "force", desc := "(I)I" } : Jvm.MethodName)) ∈ m_T := mt_3 97 rfl rfl
theorem w_578 : (Jvm.Cond.code ({ cls := "NeverLike", name := "force", desc := "(I)I" } : Jvm.MethodName) prog_1_method_10_code (3 : Nat) (Option.some Jvm.ClassFile.FieldType.int)) ∈ m_T := mt_3 98 rfl rfl
theorem w_579 : (Jvm.Cond.methodLink "NeverLikeLaw" (53 : Nat) ({ cls := "NeverLike", name := "lawful", desc := "()I" } : Jvm.MethodName)) ∈ m_T := mt_3 99 rfl rfl
theorem w_580 : (Jvm.Cond.instanceMethod ({ cls := "NeverLike", name := "lawful", desc := "()I" } : Jvm.MethodName)) ∈ m_T := mt_3 100 rfl rfl
theorem w_581 : (Jvm.Cond.selects "NeverLike" ({ cls := "NeverLike", name := "lawful", desc := "()I" } : Jvm.MethodName) ({ cls := "NeverLike", name := "lawful", desc := "()I" } : Jvm.MethodName)) ∈ m_T := mt_3 101 rfl rfl
theorem w_582 : (Jvm.Cond.code ({ cls := "NeverLike", name := "lawful", desc := "()I" } : Jvm.MethodName) prog_1_method_11_code (1 : Nat) (Option.some Jvm.ClassFile.FieldType.int)) ∈ m_T := mt_3 102 rfl rfl
theorem w_583 : (Jvm.Cond.methodLink "NeverLike" (183 : Nat) ({ cls := "NeverLike$Town", name := "isLawful", desc := "([I)Z" } : Jvm.MethodName)) ∈ m_T := mt_3 103 rfl rfl
theorem w_584 : (Jvm.Cond.instanceMethod ({ cls := "NeverLike$Town", name := "isLawful", desc := "([I)Z" } : Jvm.MethodName)) ∈ m_T := mt_3 104 rfl rfl
theorem w_585 : (Jvm.Cond.selects "NeverLike$Town" ({ cls := "NeverLike$Town", name := "isLawful", desc := "([I)Z" } : Jvm.MethodName) ({ cls := "NeverLike$Town", name := "isLawful", desc := "([I)Z" } : Jvm.MethodName)) ∈ m_T := mt_3 105 rfl rfl
theorem w_586 : (Jvm.Cond.code ({ cls := "NeverLike$Town", name := "isLawful", desc := "([I)Z" } : Jvm.MethodName) prog_12_method_11_code (3 : Nat) (Option.some Jvm.ClassFile.FieldType.boolean)) ∈ m_T := mt_3 106 rfl rfl
theorem w_587 : (Jvm.Cond.methodLink "NeverLike$Town" (62 : Nat) ({ cls := "NeverLike$Town", name := "coloursOf", desc := "(I[I)I" } : Jvm.MethodName)) ∈ m_T := mt_3 107 rfl rfl
theorem w_588 : (Jvm.Cond.instanceMethod ({ cls := "NeverLike$Town", name := "coloursOf", desc := "(I[I)I" } : Jvm.MethodName)) ∈ m_T := mt_3 108 rfl rfl
theorem w_589 : (Jvm.Cond.selects "NeverLike$Town" ({ cls := "NeverLike$Town", name := "coloursOf", desc := "(I[I)I" } : Jvm.MethodName) ({ cls := "NeverLike$Town", name := "coloursOf", desc := "(I[I)I" } : Jvm.MethodName)) ∈ m_T := mt_3 109 rfl rfl
theorem w_590 : (Jvm.Cond.code ({ cls := "NeverLike$Town", name := "coloursOf", desc := "(I[I)I" } : Jvm.MethodName) prog_12_method_10_code (5 : Nat) (Option.some Jvm.ClassFile.FieldType.int)) ∈ m_T := mt_3 110 rfl rfl
theorem w_591 : (Jvm.Cond.methodLink "NeverLikeLaw" (57 : Nat) ({ cls := "NeverLike", name := "step", desc := "(II)I" } : Jvm.MethodName)) ∈ m_T := mt_3 111 rfl rfl
theorem w_592 : (Jvm.Cond.instanceMethod ({ cls := "NeverLike", name := "step", desc := "(II)I" } : Jvm.MethodName)) ∈ m_T := mt_3 112 rfl rfl
theorem w_593 : (Jvm.Cond.selects "NeverLike" ({ cls := "NeverLike", name := "step", desc := "(II)I" } : Jvm.MethodName) ({ cls := "NeverLike", name := "step", desc := "(II)I" } : Jvm.MethodName)) ∈ m_T := mt_3 113 rfl rfl
theorem w_594 : (Jvm.Cond.code ({ cls := "NeverLike", name := "step", desc := "(II)I" } : Jvm.MethodName) prog_1_method_12_code (3 : Nat) (Option.some Jvm.ClassFile.FieldType.int)) ∈ m_T := mt_3 114 rfl rfl
theorem w_595 : (Jvm.Cond.methodLink "NeverLike" (187 : Nat) ({ cls := "NeverLike", name := "costIn", desc := "([III)I" } : Jvm.MethodName)) ∈ m_T := mt_3 115 rfl rfl
theorem w_597 : (Jvm.Cond.instanceMethod ({ cls := "NeverLike", name := "costIn", desc := "([III)I" } : Jvm.MethodName)) ∈ m_T := mt_3 117 rfl rfl
theorem w_598 : (Jvm.Cond.code ({ cls := "NeverLike", name := "costIn", desc := "([III)I" } : Jvm.MethodName) prog_1_method_42_code (4 : Nat) (Option.some Jvm.ClassFile.FieldType.int)) ∈ m_T := mt_3 118 rfl rfl
theorem w_599 : (Jvm.Cond.methodLink "NeverLike" (247 : Nat) ({ cls := "NeverLike$Town", name := "coloursOf", desc := "(I[I)I" } : Jvm.MethodName)) ∈ m_T := mt_3 119 rfl rfl
theorem w_600 : (Jvm.Cond.methodLink "NeverLike" (318 : Nat) ({ cls := "NeverLike", name := "price", desc := "(III)I" } : Jvm.MethodName)) ∈ m_T := mt_3 120 rfl rfl
theorem w_602 : (Jvm.Cond.instanceMethod ({ cls := "NeverLike", name := "price", desc := "(III)I" } : Jvm.MethodName)) ∈ m_T := mt_3 122 rfl rfl
theorem w_603 : (Jvm.Cond.code ({ cls := "NeverLike", name := "price", desc := "(III)I" } : Jvm.MethodName) prog_1_method_44_code (6 : Nat) (Option.some Jvm.ClassFile.FieldType.int)) ∈ m_T := mt_3 123 rfl rfl
theorem w_604 : (Jvm.Cond.methodLink "NeverLike" (321 : Nat) ({ cls := "NeverLike", name := "ruleNow", desc := "()LNeverLike$Text;" } : Jvm.MethodName)) ∈ m_T := mt_3 124 rfl rfl
theorem w_606 : (Jvm.Cond.instanceMethod ({ cls := "NeverLike", name := "ruleNow", desc := "()LNeverLike$Text;" } : Jvm.MethodName)) ∈ m_T := mt_3 126 rfl rfl
theorem w_607 : (Jvm.Cond.code ({ cls := "NeverLike", name := "ruleNow", desc := "()LNeverLike$Text;" } : Jvm.MethodName) prog_1_method_47_code (1 : Nat) (Option.some (Jvm.ClassFile.FieldType.object "NeverLike$Text"))) ∈ m_T := mt_3 127 rfl rfl
theorem w_608 : (Jvm.Cond.methodLink "NeverLike" (324 : Nat) ({ cls := "NeverLike", name := "tellNames", desc := "(III)V" } : Jvm.MethodName)) ∈ m_T := mt_3 128 rfl rfl
theorem w_610 : (Jvm.Cond.instanceMethod ({ cls := "NeverLike", name := "tellNames", desc := "(III)V" } : Jvm.MethodName)) ∈ m_T := mt_3 130 rfl rfl
theorem w_611 : (Jvm.Cond.code ({ cls := "NeverLike", name := "tellNames", desc := "(III)V" } : Jvm.MethodName) prog_1_method_48_code (4 : Nat) (Option.none : Option Jvm.ClassFile.FieldType)) ∈ m_T := mt_3 131 rfl rfl
theorem w_612 : (Jvm.Cond.methodLink "NeverLike" (343 : Nat) ({ cls := "java/lang/Integer", name := "bitCount", desc := "(I)I" } : Jvm.MethodName)) ∈ m_T := mt_3 132 rfl rfl
theorem w_613 : (Jvm.Cond.static ({ cls := "java/lang/Integer", name := "bitCount", desc := "(I)I" } : Jvm.MethodName)) ∈ m_T := mt_3 133 rfl rfl
theorem w_614 : (Jvm.Cond.code ({ cls := "java/lang/Integer", name := "bitCount", desc := "(I)I" } : Jvm.MethodName) prog_15_method_49_code (1 : Nat) (Option.some Jvm.ClassFile.FieldType.int)) ∈ m_T := mt_3 134 rfl rfl
theorem w_615 : (Jvm.Cond.constant "java/lang/Integer" (265 : Nat) (1431655765 : Int32)) ∈ m_T := mt_3 135 rfl rfl
theorem w_616 : (Jvm.Cond.constant "java/lang/Integer" (266 : Nat) (858993459 : Int32)) ∈ m_T := mt_3 136 rfl rfl
theorem w_617 : (Jvm.Cond.constant "java/lang/Integer" (267 : Nat) (252645135 : Int32)) ∈ m_T := mt_3 137 rfl rfl
theorem w_618 : (Jvm.Cond.methodLink "NeverLike" (328 : Nat) ({ cls := "NeverLike$Text", name := "may", desc := "([I)I" } : Jvm.MethodName)) ∈ m_T := mt_3 138 rfl rfl
theorem w_619 : (Jvm.Cond.instanceMethod ({ cls := "NeverLike$Text", name := "may", desc := "([I)I" } : Jvm.MethodName)) ∈ m_T := mt_3 139 rfl rfl
theorem w_620 : (Jvm.Cond.selects "NeverLike$Text" ({ cls := "NeverLike$Text", name := "may", desc := "([I)I" } : Jvm.MethodName) ({ cls := "NeverLike$Text", name := "may", desc := "([I)I" } : Jvm.MethodName)) ∈ m_T := mt_3 140 rfl rfl
theorem w_621 : (Jvm.Cond.code ({ cls := "NeverLike$Text", name := "may", desc := "([I)I" } : Jvm.MethodName) prog_11_method_2_code (2 : Nat) (Option.some Jvm.ClassFile.FieldType.int)) ∈ m_T := mt_3 141 rfl rfl
theorem w_622 : (Jvm.Cond.methodLink "NeverLike$Text" (25 : Nat) ({ cls := "NeverLike$Text", name := "value", desc := "(II[I)I" } : Jvm.MethodName)) ∈ m_T := mt_3 142 rfl rfl
theorem w_624 : (Jvm.Cond.instanceMethod ({ cls := "NeverLike$Text", name := "value", desc := "(II[I)I" } : Jvm.MethodName)) ∈ m_T := mt_3 144 rfl rfl
theorem w_625 : (Jvm.Cond.code ({ cls := "NeverLike$Text", name := "value", desc := "(II[I)I" } : Jvm.MethodName) prog_11_method_5_code (7 : Nat) (Option.some Jvm.ClassFile.FieldType.int)) ∈ m_T := mt_3 145 rfl rfl
theorem w_626 : (Jvm.Cond.methodLink "NeverLike$Text" (29 : Nat) ({ cls := "NeverLike$Text", name := "joined", desc := "(III)I" } : Jvm.MethodName)) ∈ m_T := mt_3 146 rfl rfl
theorem w_627 : (Jvm.Cond.static ({ cls := "NeverLike$Text", name := "joined", desc := "(III)I" } : Jvm.MethodName)) ∈ m_T := mt_3 147 rfl rfl
theorem w_628 : (Jvm.Cond.code ({ cls := "NeverLike$Text", name := "joined", desc := "(III)I" } : Jvm.MethodName) prog_11_method_6_code (3 : Nat) (Option.some Jvm.ClassFile.FieldType.int)) ∈ m_T := mt_3 148 rfl rfl
theorem w_629 : (Jvm.Cond.methodLink "NeverLike" (331 : Nat) ({ cls := "NeverLike", name := "leastAsked", desc := "(III)I" } : Jvm.MethodName)) ∈ m_T := mt_3 149 rfl rfl
theorem w_631 : (Jvm.Cond.instanceMethod ({ cls := "NeverLike", name := "leastAsked", desc := "(III)I" } : Jvm.MethodName)) ∈ m_T := mt_3 151 rfl rfl
theorem w_632 : (Jvm.Cond.code ({ cls := "NeverLike", name := "leastAsked", desc := "(III)I" } : Jvm.MethodName) prog_1_method_45_code (8 : Nat) (Option.some Jvm.ClassFile.FieldType.int)) ∈ m_T := mt_3 152 rfl rfl
theorem w_633 : (Jvm.Cond.methodLink "NeverLike" (191 : Nat) ({ cls := "java/lang/Math", name := "min", desc := "(II)I" } : Jvm.MethodName)) ∈ m_T := mt_3 153 rfl rfl
theorem w_634 : (Jvm.Cond.static ({ cls := "java/lang/Math", name := "min", desc := "(II)I" } : Jvm.MethodName)) ∈ m_T := mt_3 154 rfl rfl
theorem w_635 : (Jvm.Cond.code ({ cls := "java/lang/Math", name := "min", desc := "(II)I" } : Jvm.MethodName) prog_16_method_69_code (2 : Nat) (Option.some Jvm.ClassFile.FieldType.int)) ∈ m_T := mt_3 155 rfl rfl
theorem w_636 : (Jvm.Cond.methodLink "NeverLike" (334 : Nat) ({ cls := "NeverLike$Text", name := "fee", desc := "([I)I" } : Jvm.MethodName)) ∈ m_T := mt_3 156 rfl rfl
theorem w_637 : (Jvm.Cond.instanceMethod ({ cls := "NeverLike$Text", name := "fee", desc := "([I)I" } : Jvm.MethodName)) ∈ m_T := mt_3 157 rfl rfl
theorem w_638 : (Jvm.Cond.selects "NeverLike$Text" ({ cls := "NeverLike$Text", name := "fee", desc := "([I)I" } : Jvm.MethodName) ({ cls := "NeverLike$Text", name := "fee", desc := "([I)I" } : Jvm.MethodName)) ∈ m_T := mt_3 158 rfl rfl
theorem w_639 : (Jvm.Cond.code ({ cls := "NeverLike$Text", name := "fee", desc := "([I)I" } : Jvm.MethodName) prog_11_method_3_code (2 : Nat) (Option.some Jvm.ClassFile.FieldType.int)) ∈ m_T := mt_3 159 rfl rfl
theorem w_640 : (Jvm.Cond.methodLink "NeverLike" (337 : Nat) ({ cls := "NeverLike", name := "bounded", desc := "(II)I" } : Jvm.MethodName)) ∈ m_T := mt_3 160 rfl rfl
theorem w_641 : (Jvm.Cond.static ({ cls := "NeverLike", name := "bounded", desc := "(II)I" } : Jvm.MethodName)) ∈ m_T := mt_3 161 rfl rfl
theorem w_642 : (Jvm.Cond.code ({ cls := "NeverLike", name := "bounded", desc := "(II)I" } : Jvm.MethodName) prog_1_method_49_code (2 : Nat) (Option.some Jvm.ClassFile.FieldType.int)) ∈ m_T := mt_3 162 rfl rfl
theorem w_643 : (Jvm.Cond.methodLink "NeverLikeLaw" (61 : Nat) ({ cls := "NeverLike", name := "paint", desc := "(II)I" } : Jvm.MethodName)) ∈ m_T := mt_3 163 rfl rfl
theorem w_644 : (Jvm.Cond.instanceMethod ({ cls := "NeverLike", name := "paint", desc := "(II)I" } : Jvm.MethodName)) ∈ m_T := mt_3 164 rfl rfl
theorem w_645 : (Jvm.Cond.selects "NeverLike" ({ cls := "NeverLike", name := "paint", desc := "(II)I" } : Jvm.MethodName) ({ cls := "NeverLike", name := "paint", desc := "(II)I" } : Jvm.MethodName)) ∈ m_T := mt_3 165 rfl rfl
theorem w_646 : (Jvm.Cond.code ({ cls := "NeverLike", name := "paint", desc := "(II)I" } : Jvm.MethodName) prog_1_method_13_code (4 : Nat) (Option.some Jvm.ClassFile.FieldType.int)) ∈ m_T := mt_3 166 rfl rfl
theorem w_647 : (Jvm.Cond.methodLink "NeverLikeLaw" (65 : Nat) ({ cls := "NeverLike", name := "come", desc := "(I)I" } : Jvm.MethodName)) ∈ m_T := mt_3 167 rfl rfl
theorem w_648 : (Jvm.Cond.instanceMethod ({ cls := "NeverLike", name := "come", desc := "(I)I" } : Jvm.MethodName)) ∈ m_T := mt_3 168 rfl rfl
theorem w_649 : (Jvm.Cond.selects "NeverLike" ({ cls := "NeverLike", name := "come", desc := "(I)I" } : Jvm.MethodName) ({ cls := "NeverLike", name := "come", desc := "(I)I" } : Jvm.MethodName)) ∈ m_T := mt_3 169 rfl rfl
theorem w_650 : (Jvm.Cond.code ({ cls := "NeverLike", name := "come", desc := "(I)I" } : Jvm.MethodName) prog_1_method_14_code (2 : Nat) (Option.some Jvm.ClassFile.FieldType.int)) ∈ m_T := mt_3 170 rfl rfl
theorem w_651 : (Jvm.Cond.methodLink "NeverLike" (194 : Nat) ({ cls := "NeverLike", name := "tellPrices", desc := "()V" } : Jvm.MethodName)) ∈ m_T := mt_3 171 rfl rfl
theorem w_653 : (Jvm.Cond.instanceMethod ({ cls := "NeverLike", name := "tellPrices", desc := "()V" } : Jvm.MethodName)) ∈ m_T := mt_3 173 rfl rfl
theorem w_654 : (Jvm.Cond.code ({ cls := "NeverLike", name := "tellPrices", desc := "()V" } : Jvm.MethodName) prog_1_method_50_code (4 : Nat) (Option.none : Option Jvm.ClassFile.FieldType)) ∈ m_T := mt_3 174 rfl rfl
theorem w_655 : (Jvm.Cond.methodLink "NeverLike" (351 : Nat) ({ cls := "NeverLike$Search", name := "setPrice", desc := "(IIII)V" } : Jvm.MethodName)) ∈ m_T := mt_3 175 rfl rfl
theorem w_656 : (Jvm.Cond.instanceMethod ({ cls := "NeverLike$Search", name := "setPrice", desc := "(IIII)V" } : Jvm.MethodName)) ∈ m_T := mt_3 176 rfl rfl
theorem w_657 : (Jvm.Cond.selects "NeverLike$Search" ({ cls := "NeverLike$Search", name := "setPrice", desc := "(IIII)V" } : Jvm.MethodName) ({ cls := "NeverLike$Search", name := "setPrice", desc := "(IIII)V" } : Jvm.MethodName)) ∈ m_T := mt_3 177 rfl rfl
theorem w_658 : (Jvm.Cond.code ({ cls := "NeverLike$Search", name := "setPrice", desc := "(IIII)V" } : Jvm.MethodName) prog_7_method_3_code (5 : Nat) (Option.none : Option Jvm.ClassFile.FieldType)) ∈ m_T := mt_3 178 rfl rfl
theorem w_659 : (Jvm.Cond.methodLink "NeverLike$Search" (46 : Nat) ({ cls := "NeverLike$Search", name := "placeOf", desc := "(III)I" } : Jvm.MethodName)) ∈ m_T := mt_3 179 rfl rfl
theorem w_660 : (Jvm.Cond.static ({ cls := "NeverLike$Search", name := "placeOf", desc := "(III)I" } : Jvm.MethodName)) ∈ m_T := mt_3 180 rfl rfl
theorem w_661 : (Jvm.Cond.code ({ cls := "NeverLike$Search", name := "placeOf", desc := "(III)I" } : Jvm.MethodName) prog_7_method_4_code (3 : Nat) (Option.some Jvm.ClassFile.FieldType.int)) ∈ m_T := mt_3 181 rfl rfl
theorem w_662 : (Jvm.Cond.methodLink "NeverLike" (197 : Nat) ({ cls := "NeverLike$Search", name := "parts", desc := "()I" } : Jvm.MethodName)) ∈ m_T := mt_3 182 rfl rfl
theorem w_663 : (Jvm.Cond.instanceMethod ({ cls := "NeverLike$Search", name := "parts", desc := "()I" } : Jvm.MethodName)) ∈ m_T := mt_3 183 rfl rfl
theorem w_664 : (Jvm.Cond.selects "NeverLike$Search" ({ cls := "NeverLike$Search", name := "parts", desc := "()I" } : Jvm.MethodName) ({ cls := "NeverLike$Search", name := "parts", desc := "()I" } : Jvm.MethodName)) ∈ m_T := mt_3 184 rfl rfl
theorem w_665 : (Jvm.Cond.code ({ cls := "NeverLike$Search", name := "parts", desc := "()I" } : Jvm.MethodName) prog_7_method_14_code (3 : Nat) (Option.some Jvm.ClassFile.FieldType.int)) ∈ m_T := mt_3 185 rfl rfl
theorem w_666 : (Jvm.Cond.methodLink "NeverLike$Search" (56 : Nat) ({ cls := "NeverLike$Search", name := "clear", desc := "()V" } : Jvm.MethodName)) ∈ m_T := mt_3 186 rfl rfl
theorem w_668 : (Jvm.Cond.instanceMethod ({ cls := "NeverLike$Search", name := "clear", desc := "()V" } : Jvm.MethodName)) ∈ m_T := mt_3 188 rfl rfl
theorem w_669 : (Jvm.Cond.code ({ cls := "NeverLike$Search", name := "clear", desc := "()V" } : Jvm.MethodName) prog_7_method_6_code (2 : Nat) (Option.none : Option Jvm.ClassFile.FieldType)) ∈ m_T := mt_3 189 rfl rfl
theorem w_670 : (Jvm.Cond.methodLink "NeverLike$Search" (78 : Nat) ({ cls := "NeverLike$Search", name := "lookAt", desc := "(I)V" } : Jvm.MethodName)) ∈ m_T := mt_3 190 rfl rfl
theorem w_672 : (Jvm.Cond.instanceMethod ({ cls := "NeverLike$Search", name := "lookAt", desc := "(I)V" } : Jvm.MethodName)) ∈ m_T := mt_3 192 rfl rfl
theorem w_673 : (Jvm.Cond.code ({ cls := "NeverLike$Search", name := "lookAt", desc := "(I)V" } : Jvm.MethodName) prog_7_method_10_code (4 : Nat) (Option.none : Option Jvm.ClassFile.FieldType)) ∈ m_T := mt_3 193 rfl rfl
theorem w_674 : (Jvm.Cond.methodLink "NeverLike$Search" (102 : Nat) ({ cls := "NeverLike$Town", name := "isLawful", desc := "([I)Z" } : Jvm.MethodName)) ∈ m_T := mt_3 194 rfl rfl
theorem w_675 : (Jvm.Cond.methodLink "NeverLike$Search" (59 : Nat) ({ cls := "NeverLike$Search", name := "spread", desc := "(II)V" } : Jvm.MethodName)) ∈ m_T := mt_3 195 rfl rfl
theorem w_677 : (Jvm.Cond.instanceMethod ({ cls := "NeverLike$Search", name := "spread", desc := "(II)V" } : Jvm.MethodName)) ∈ m_T := mt_3 197 rfl rfl
theorem w_678 : (Jvm.Cond.code ({ cls := "NeverLike$Search", name := "spread", desc := "(II)V" } : Jvm.MethodName) prog_7_method_7_code (4 : Nat) (Option.none : Option Jvm.ClassFile.FieldType)) ∈ m_T := mt_3 198 rfl rfl
theorem w_679 : (Jvm.Cond.methodLink "NeverLike$Search" (72 : Nat) ({ cls := "NeverLike$Search", name := "meet", desc := "(II)V" } : Jvm.MethodName)) ∈ m_T := mt_3 199 rfl rfl
theorem w_681 : (Jvm.Cond.instanceMethod ({ cls := "NeverLike$Search", name := "meet", desc := "(II)V" } : Jvm.MethodName)) ∈ m_T := mt_3 201 rfl rfl
theorem w_682 : (Jvm.Cond.code ({ cls := "NeverLike$Search", name := "meet", desc := "(II)V" } : Jvm.MethodName) prog_7_method_8_code (3 : Nat) (Option.none : Option Jvm.ClassFile.FieldType)) ∈ m_T := mt_3 202 rfl rfl
theorem w_683 : (Jvm.Cond.methodLink "NeverLike$Search" (50 : Nat) ({ cls := "NeverLike$Town", name := "isTown", desc := "(I)Z" } : Jvm.MethodName)) ∈ m_T := mt_3 203 rfl rfl
theorem w_684 : (Jvm.Cond.instanceMethod ({ cls := "NeverLike$Town", name := "isTown", desc := "(I)Z" } : Jvm.MethodName)) ∈ m_T := mt_3 204 rfl rfl
theorem w_685 : (Jvm.Cond.selects "NeverLike$Town" ({ cls := "NeverLike$Town", name := "isTown", desc := "(I)Z" } : Jvm.MethodName) ({ cls := "NeverLike$Town", name := "isTown", desc := "(I)Z" } : Jvm.MethodName)) ∈ m_T := mt_3 205 rfl rfl
theorem w_686 : (Jvm.Cond.code ({ cls := "NeverLike$Town", name := "isTown", desc := "(I)Z" } : Jvm.MethodName) prog_12_method_8_code (2 : Nat) (Option.some Jvm.ClassFile.FieldType.boolean)) ∈ m_T := mt_3 206 rfl rfl
theorem w_687 : (Jvm.Cond.methodLink "NeverLike$Search" (75 : Nat) ({ cls := "NeverLike$Search", name := "widen", desc := "(II)V" } : Jvm.MethodName)) ∈ m_T := mt_3 207 rfl rfl
theorem w_689 : (Jvm.Cond.instanceMethod ({ cls := "NeverLike$Search", name := "widen", desc := "(II)V" } : Jvm.MethodName)) ∈ m_T := mt_3 209 rfl rfl
theorem w_690 : (Jvm.Cond.code ({ cls := "NeverLike$Search", name := "widen", desc := "(II)V" } : Jvm.MethodName) prog_7_method_9_code (10 : Nat) (Option.none : Option Jvm.ClassFile.FieldType)) ∈ m_T := mt_3 210 rfl rfl
theorem w_691 : (Jvm.Cond.methodLink "NeverLike$Search" (88 : Nat) ({ cls := "NeverLike$Town", name := "coloursOf", desc := "(I[I)I" } : Jvm.MethodName)) ∈ m_T := mt_3 211 rfl rfl
theorem w_692 : (Jvm.Cond.methodLink "NeverLike$Search" (95 : Nat) ({ cls := "NeverLike$Search", name := "cheapen", desc := "(II)V" } : Jvm.MethodName)) ∈ m_T := mt_3 212 rfl rfl
theorem w_694 : (Jvm.Cond.instanceMethod ({ cls := "NeverLike$Search", name := "cheapen", desc := "(II)V" } : Jvm.MethodName)) ∈ m_T := mt_3 214 rfl rfl
theorem w_695 : (Jvm.Cond.code ({ cls := "NeverLike$Search", name := "cheapen", desc := "(II)V" } : Jvm.MethodName) prog_7_method_11_code (3 : Nat) (Option.none : Option Jvm.ClassFile.FieldType)) ∈ m_T := mt_3 215 rfl rfl
theorem w_696 : (Jvm.Cond.methodLink "NeverLike" (200 : Nat) ({ cls := "NeverLike", name := "reachFromNow", desc := "()V" } : Jvm.MethodName)) ∈ m_T := mt_3 216 rfl rfl
theorem w_698 : (Jvm.Cond.instanceMethod ({ cls := "NeverLike", name := "reachFromNow", desc := "()V" } : Jvm.MethodName)) ∈ m_T := mt_3 218 rfl rfl
theorem w_699 : (Jvm.Cond.code ({ cls := "NeverLike", name := "reachFromNow", desc := "()V" } : Jvm.MethodName) prog_1_method_51_code (1 : Nat) (Option.none : Option Jvm.ClassFile.FieldType)) ∈ m_T := mt_3 219 rfl rfl
theorem w_700 : (Jvm.Cond.methodLink "NeverLike" (236 : Nat) ({ cls := "NeverLike$Town", name := "numberOf", desc := "([I)I" } : Jvm.MethodName)) ∈ m_T := mt_3 220 rfl rfl
theorem w_701 : (Jvm.Cond.instanceMethod ({ cls := "NeverLike$Town", name := "numberOf", desc := "([I)I" } : Jvm.MethodName)) ∈ m_T := mt_3 221 rfl rfl
theorem w_702 : (Jvm.Cond.selects "NeverLike$Town" ({ cls := "NeverLike$Town", name := "numberOf", desc := "([I)I" } : Jvm.MethodName) ({ cls := "NeverLike$Town", name := "numberOf", desc := "([I)I" } : Jvm.MethodName)) ∈ m_T := mt_3 222 rfl rfl
theorem w_703 : (Jvm.Cond.code ({ cls := "NeverLike$Town", name := "numberOf", desc := "([I)I" } : Jvm.MethodName) prog_12_method_12_code (4 : Nat) (Option.some Jvm.ClassFile.FieldType.int)) ∈ m_T := mt_3 223 rfl rfl
theorem w_704 : (Jvm.Cond.methodLink "NeverLike" (240 : Nat) ({ cls := "NeverLike$Search", name := "reach", desc := "(I)V" } : Jvm.MethodName)) ∈ m_T := mt_3 224 rfl rfl
theorem w_705 : (Jvm.Cond.instanceMethod ({ cls := "NeverLike$Search", name := "reach", desc := "(I)V" } : Jvm.MethodName)) ∈ m_T := mt_3 225 rfl rfl
theorem w_706 : (Jvm.Cond.selects "NeverLike$Search" ({ cls := "NeverLike$Search", name := "reach", desc := "(I)V" } : Jvm.MethodName) ({ cls := "NeverLike$Search", name := "reach", desc := "(I)V" } : Jvm.MethodName)) ∈ m_T := mt_3 226 rfl rfl
theorem w_707 : (Jvm.Cond.code ({ cls := "NeverLike$Search", name := "reach", desc := "(I)V" } : Jvm.MethodName) prog_7_method_5_code (2 : Nat) (Option.none : Option Jvm.ClassFile.FieldType)) ∈ m_T := mt_3 227 rfl rfl
theorem w_708 : (Jvm.Cond.methodLink "NeverLike" (206 : Nat) ({ cls := "NeverLike$Search", name := "farthest", desc := "()I" } : Jvm.MethodName)) ∈ m_T := mt_3 228 rfl rfl
theorem w_709 : (Jvm.Cond.instanceMethod ({ cls := "NeverLike$Search", name := "farthest", desc := "()I" } : Jvm.MethodName)) ∈ m_T := mt_3 229 rfl rfl
theorem w_710 : (Jvm.Cond.selects "NeverLike$Search" ({ cls := "NeverLike$Search", name := "farthest", desc := "()I" } : Jvm.MethodName) ({ cls := "NeverLike$Search", name := "farthest", desc := "()I" } : Jvm.MethodName)) ∈ m_T := mt_3 230 rfl rfl
theorem w_711 : (Jvm.Cond.code ({ cls := "NeverLike$Search", name := "farthest", desc := "()I" } : Jvm.MethodName) prog_7_method_15_code (1 : Nat) (Option.some Jvm.ClassFile.FieldType.int)) ∈ m_T := mt_3 231 rfl rfl
theorem w_712 : (Jvm.Cond.methodLink "NeverLike" (209 : Nat) ({ cls := "NeverLike$Search", name := "frozen", desc := "()I" } : Jvm.MethodName)) ∈ m_T := mt_3 232 rfl rfl
theorem w_713 : (Jvm.Cond.instanceMethod ({ cls := "NeverLike$Search", name := "frozen", desc := "()I" } : Jvm.MethodName)) ∈ m_T := mt_3 233 rfl rfl
theorem w_714 : (Jvm.Cond.selects "NeverLike$Search" ({ cls := "NeverLike$Search", name := "frozen", desc := "()I" } : Jvm.MethodName) ({ cls := "NeverLike$Search", name := "frozen", desc := "()I" } : Jvm.MethodName)) ∈ m_T := mt_3 234 rfl rfl
theorem w_715 : (Jvm.Cond.code ({ cls := "NeverLike$Search", name := "frozen", desc := "()I" } : Jvm.MethodName) prog_7_method_16_code (4 : Nat) (Option.some Jvm.ClassFile.FieldType.int)) ∈ m_T := mt_3 235 rfl rfl
theorem w_716 : (Jvm.Cond.methodLink "NeverLikeLaw" (69 : Nat) ({ cls := "NeverLike", name := "shortest", desc := "(I)I" } : Jvm.MethodName)) ∈ m_T := mt_3 236 rfl rfl
theorem w_717 : (Jvm.Cond.instanceMethod ({ cls := "NeverLike", name := "shortest", desc := "(I)I" } : Jvm.MethodName)) ∈ m_T := mt_3 237 rfl rfl
theorem w_718 : (Jvm.Cond.selects "NeverLike" ({ cls := "NeverLike", name := "shortest", desc := "(I)I" } : Jvm.MethodName) ({ cls := "NeverLike", name := "shortest", desc := "(I)I" } : Jvm.MethodName)) ∈ m_T := mt_3 238 rfl rfl
theorem w_719 : (Jvm.Cond.code ({ cls := "NeverLike", name := "shortest", desc := "(I)I" } : Jvm.MethodName) prog_1_method_15_code (2 : Nat) (Option.some Jvm.ClassFile.FieldType.int)) ∈ m_T := mt_3 239 rfl rfl
theorem w_720 : (Jvm.Cond.methodLink "NeverLike" (212 : Nat) ({ cls := "NeverLike$Town", name := "isTown", desc := "(I)Z" } : Jvm.MethodName)) ∈ m_T := mt_4 0 rfl rfl
theorem w_721 : (Jvm.Cond.methodLink "NeverLike" (215 : Nat) ({ cls := "NeverLike$Search", name := "stepsTo", desc := "(I)I" } : Jvm.MethodName)) ∈ m_T := mt_4 1 rfl rfl
theorem w_722 : (Jvm.Cond.instanceMethod ({ cls := "NeverLike$Search", name := "stepsTo", desc := "(I)I" } : Jvm.MethodName)) ∈ m_T := mt_4 2 rfl rfl
theorem w_723 : (Jvm.Cond.selects "NeverLike$Search" ({ cls := "NeverLike$Search", name := "stepsTo", desc := "(I)I" } : Jvm.MethodName) ({ cls := "NeverLike$Search", name := "stepsTo", desc := "(I)I" } : Jvm.MethodName)) ∈ m_T := mt_4 3 rfl rfl
theorem w_724 : (Jvm.Cond.code ({ cls := "NeverLike$Search", name := "stepsTo", desc := "(I)I" } : Jvm.MethodName) prog_7_method_17_code (2 : Nat) (Option.some Jvm.ClassFile.FieldType.int)) ∈ m_T := mt_4 4 rfl rfl
theorem w_725 : (Jvm.Cond.methodLink "NeverLikeLaw" (73 : Nat) ({ cls := "NeverLike", name := "first", desc := "(II)I" } : Jvm.MethodName)) ∈ m_T := mt_4 5 rfl rfl
theorem w_726 : (Jvm.Cond.instanceMethod ({ cls := "NeverLike", name := "first", desc := "(II)I" } : Jvm.MethodName)) ∈ m_T := mt_4 6 rfl rfl
theorem w_727 : (Jvm.Cond.selects "NeverLike" ({ cls := "NeverLike", name := "first", desc := "(II)I" } : Jvm.MethodName) ({ cls := "NeverLike", name := "first", desc := "(II)I" } : Jvm.MethodName)) ∈ m_T := mt_4 7 rfl rfl
theorem w_728 : (Jvm.Cond.code ({ cls := "NeverLike", name := "first", desc := "(II)I" } : Jvm.MethodName) prog_1_method_16_code (3 : Nat) (Option.some Jvm.ClassFile.FieldType.int)) ∈ m_T := mt_4 8 rfl rfl
theorem w_729 : (Jvm.Cond.methodLink "NeverLike" (218 : Nat) ({ cls := "NeverLike$Search", name := "rowStep", desc := "(II)I" } : Jvm.MethodName)) ∈ m_T := mt_4 9 rfl rfl
theorem w_730 : (Jvm.Cond.instanceMethod ({ cls := "NeverLike$Search", name := "rowStep", desc := "(II)I" } : Jvm.MethodName)) ∈ m_T := mt_4 10 rfl rfl
theorem w_731 : (Jvm.Cond.selects "NeverLike$Search" ({ cls := "NeverLike$Search", name := "rowStep", desc := "(II)I" } : Jvm.MethodName) ({ cls := "NeverLike$Search", name := "rowStep", desc := "(II)I" } : Jvm.MethodName)) ∈ m_T := mt_4 11 rfl rfl
theorem w_732 : (Jvm.Cond.code ({ cls := "NeverLike$Search", name := "rowStep", desc := "(II)I" } : Jvm.MethodName) prog_7_method_18_code (6 : Nat) (Option.some Jvm.ClassFile.FieldType.int)) ∈ m_T := mt_4 12 rfl rfl
theorem w_733 : (Jvm.Cond.methodLink "NeverLike$Search" (107 : Nat) ({ cls := "NeverLike$Search", name := "stepsTo", desc := "(I)I" } : Jvm.MethodName)) ∈ m_T := mt_4 13 rfl rfl
theorem w_734 : (Jvm.Cond.methodLink "NeverLike$Search" (111 : Nat) ({ cls := "NeverLike$Search", name := "stepBetween", desc := "(II)I" } : Jvm.MethodName)) ∈ m_T := mt_4 14 rfl rfl
theorem w_736 : (Jvm.Cond.instanceMethod ({ cls := "NeverLike$Search", name := "stepBetween", desc := "(II)I" } : Jvm.MethodName)) ∈ m_T := mt_4 16 rfl rfl
theorem w_737 : (Jvm.Cond.code ({ cls := "NeverLike$Search", name := "stepBetween", desc := "(II)I" } : Jvm.MethodName) prog_7_method_19_code (6 : Nat) (Option.some Jvm.ClassFile.FieldType.int)) ∈ m_T := mt_4 17 rfl rfl
theorem w_738 : (Jvm.Cond.methodLink "NeverLikeLaw" (77 : Nat) ({ cls := "NeverLike", name := "cheapest", desc := "(I)I" } : Jvm.MethodName)) ∈ m_T := mt_4 18 rfl rfl
theorem w_739 : (Jvm.Cond.instanceMethod ({ cls := "NeverLike", name := "cheapest", desc := "(I)I" } : Jvm.MethodName)) ∈ m_T := mt_4 19 rfl rfl
theorem w_740 : (Jvm.Cond.selects "NeverLike" ({ cls := "NeverLike", name := "cheapest", desc := "(I)I" } : Jvm.MethodName) ({ cls := "NeverLike", name := "cheapest", desc := "(I)I" } : Jvm.MethodName)) ∈ m_T := mt_4 20 rfl rfl
theorem w_741 : (Jvm.Cond.code ({ cls := "NeverLike", name := "cheapest", desc := "(I)I" } : Jvm.MethodName) prog_1_method_17_code (2 : Nat) (Option.some Jvm.ClassFile.FieldType.int)) ∈ m_T := mt_4 21 rfl rfl
theorem w_742 : (Jvm.Cond.methodLink "NeverLike" (221 : Nat) ({ cls := "NeverLike$Search", name := "costTo", desc := "(I)I" } : Jvm.MethodName)) ∈ m_T := mt_4 22 rfl rfl
theorem w_743 : (Jvm.Cond.instanceMethod ({ cls := "NeverLike$Search", name := "costTo", desc := "(I)I" } : Jvm.MethodName)) ∈ m_T := mt_4 23 rfl rfl
theorem w_744 : (Jvm.Cond.selects "NeverLike$Search" ({ cls := "NeverLike$Search", name := "costTo", desc := "(I)I" } : Jvm.MethodName) ({ cls := "NeverLike$Search", name := "costTo", desc := "(I)I" } : Jvm.MethodName)) ∈ m_T := mt_4 24 rfl rfl
theorem w_745 : (Jvm.Cond.code ({ cls := "NeverLike$Search", name := "costTo", desc := "(I)I" } : Jvm.MethodName) prog_7_method_20_code (2 : Nat) (Option.some Jvm.ClassFile.FieldType.int)) ∈ m_T := mt_4 25 rfl rfl
theorem w_746 : (Jvm.Cond.methodLink "NeverLike$Search" (115 : Nat) ({ cls := "NeverLike$Search", name := "findCosts", desc := "()V" } : Jvm.MethodName)) ∈ m_T := mt_4 26 rfl rfl
theorem w_748 : (Jvm.Cond.instanceMethod ({ cls := "NeverLike$Search", name := "findCosts", desc := "()V" } : Jvm.MethodName)) ∈ m_T := mt_4 28 rfl rfl
theorem w_749 : (Jvm.Cond.code ({ cls := "NeverLike$Search", name := "findCosts", desc := "()V" } : Jvm.MethodName) prog_7_method_12_code (3 : Nat) (Option.none : Option Jvm.ClassFile.FieldType)) ∈ m_T := mt_4 29 rfl rfl
theorem w_750 : (Jvm.Cond.methodLink "NeverLike$Search" (98 : Nat) ({ cls := "NeverLike$Search", name := "costRound", desc := "()Z" } : Jvm.MethodName)) ∈ m_T := mt_4 30 rfl rfl
theorem w_752 : (Jvm.Cond.instanceMethod ({ cls := "NeverLike$Search", name := "costRound", desc := "()Z" } : Jvm.MethodName)) ∈ m_T := mt_4 32 rfl rfl
theorem w_753 : (Jvm.Cond.code ({ cls := "NeverLike$Search", name := "costRound", desc := "()Z" } : Jvm.MethodName) prog_7_method_13_code (3 : Nat) (Option.some Jvm.ClassFile.FieldType.boolean)) ∈ m_T := mt_4 33 rfl rfl
theorem w_754 : (Jvm.Cond.methodLink "NeverLikeLaw" (81 : Nat) ({ cls := "NeverLike", name := "wishes", desc := "(I)I" } : Jvm.MethodName)) ∈ m_T := mt_4 34 rfl rfl
theorem w_755 : (Jvm.Cond.instanceMethod ({ cls := "NeverLike", name := "wishes", desc := "(I)I" } : Jvm.MethodName)) ∈ m_T := mt_4 35 rfl rfl
theorem w_756 : (Jvm.Cond.selects "NeverLike" ({ cls := "NeverLike", name := "wishes", desc := "(I)I" } : Jvm.MethodName) ({ cls := "NeverLike", name := "wishes", desc := "(I)I" } : Jvm.MethodName)) ∈ m_T := mt_4 36 rfl rfl
theorem w_757 : (Jvm.Cond.code ({ cls := "NeverLike", name := "wishes", desc := "(I)I" } : Jvm.MethodName) prog_1_method_18_code (3 : Nat) (Option.some Jvm.ClassFile.FieldType.int)) ∈ m_T := mt_4 37 rfl rfl
theorem w_758 : (Jvm.Cond.methodLink "NeverLike" (224 : Nat) ({ cls := "NeverLike$Search", name := "mostWished", desc := "()I" } : Jvm.MethodName)) ∈ m_T := mt_4 38 rfl rfl
theorem w_759 : (Jvm.Cond.instanceMethod ({ cls := "NeverLike$Search", name := "mostWished", desc := "()I" } : Jvm.MethodName)) ∈ m_T := mt_4 39 rfl rfl
theorem w_760 : (Jvm.Cond.selects "NeverLike$Search" ({ cls := "NeverLike$Search", name := "mostWished", desc := "()I" } : Jvm.MethodName) ({ cls := "NeverLike$Search", name := "mostWished", desc := "()I" } : Jvm.MethodName)) ∈ m_T := mt_4 40 rfl rfl
theorem w_761 : (Jvm.Cond.code ({ cls := "NeverLike$Search", name := "mostWished", desc := "()I" } : Jvm.MethodName) prog_7_method_23_code (5 : Nat) (Option.some Jvm.ClassFile.FieldType.int)) ∈ m_T := mt_4 41 rfl rfl
theorem w_762 : (Jvm.Cond.methodLink "NeverLike$Search" (121 : Nat) ({ cls := "NeverLike$Search", name := "wished", desc := "(I)I" } : Jvm.MethodName)) ∈ m_T := mt_4 42 rfl rfl
theorem w_763 : (Jvm.Cond.instanceMethod ({ cls := "NeverLike$Search", name := "wished", desc := "(I)I" } : Jvm.MethodName)) ∈ m_T := mt_4 43 rfl rfl
theorem w_764 : (Jvm.Cond.selects "NeverLike$Search" ({ cls := "NeverLike$Search", name := "wished", desc := "(I)I" } : Jvm.MethodName) ({ cls := "NeverLike$Search", name := "wished", desc := "(I)I" } : Jvm.MethodName)) ∈ m_T := mt_4 44 rfl rfl
theorem w_765 : (Jvm.Cond.code ({ cls := "NeverLike$Search", name := "wished", desc := "(I)I" } : Jvm.MethodName) prog_7_method_22_code (4 : Nat) (Option.some Jvm.ClassFile.FieldType.int)) ∈ m_T := mt_4 45 rfl rfl
theorem w_766 : (Jvm.Cond.methodLink "NeverLike" (227 : Nat) ({ cls := "NeverLike$Search", name := "wished", desc := "(I)I" } : Jvm.MethodName)) ∈ m_T := mt_4 46 rfl rfl
theorem w_767 : (Jvm.Cond.methodLink "NeverLikeLaw" (85 : Nat) ({ cls := "NeverLike", name := "night", desc := "(II)I" } : Jvm.MethodName)) ∈ m_T := mt_4 47 rfl rfl
theorem w_768 : (Jvm.Cond.instanceMethod ({ cls := "NeverLike", name := "night", desc := "(II)I" } : Jvm.MethodName)) ∈ m_T := mt_4 48 rfl rfl
theorem w_769 : (Jvm.Cond.selects "NeverLike" ({ cls := "NeverLike", name := "night", desc := "(II)I" } : Jvm.MethodName) ({ cls := "NeverLike", name := "night", desc := "(II)I" } : Jvm.MethodName)) ∈ m_T := mt_4 49 rfl rfl
theorem w_770 : (Jvm.Cond.code ({ cls := "NeverLike", name := "night", desc := "(II)I" } : Jvm.MethodName) prog_1_method_19_code (3 : Nat) (Option.some Jvm.ClassFile.FieldType.int)) ∈ m_T := mt_4 50 rfl rfl
theorem w_771 : (Jvm.Cond.methodLink "NeverLike" (230 : Nat) ({ cls := "java/lang/System", name := "arraycopy", desc := "(Ljava/lang/Object;ILjava/lang/Object;II)V" } : Jvm.MethodName)) ∈ m_T := mt_4 51 rfl rfl
theorem w_772 : (Jvm.Cond.methodLink "NeverLikeLaw" (89 : Nat) ({ cls := "NeverLike", name := "gap", desc := "(I)I" } : Jvm.MethodName)) ∈ m_T := mt_4 52 rfl rfl
theorem w_773 : (Jvm.Cond.instanceMethod ({ cls := "NeverLike", name := "gap", desc := "(I)I" } : Jvm.MethodName)) ∈ m_T := mt_4 53 rfl rfl
theorem w_774 : (Jvm.Cond.selects "NeverLike" ({ cls := "NeverLike", name := "gap", desc := "(I)I" } : Jvm.MethodName) ({ cls := "NeverLike", name := "gap", desc := "(I)I" } : Jvm.MethodName)) ∈ m_T := mt_4 54 rfl rfl
theorem w_775 : (Jvm.Cond.code ({ cls := "NeverLike", name := "gap", desc := "(I)I" } : Jvm.MethodName) prog_1_method_20_code (2 : Nat) (Option.some Jvm.ClassFile.FieldType.int)) ∈ m_T := mt_4 55 rfl rfl
theorem w_776 : (Jvm.Cond.methodLink "NeverLikeLaw" (93 : Nat) ({ cls := "NeverLike", name := "turned", desc := "()I" } : Jvm.MethodName)) ∈ m_T := mt_4 56 rfl rfl
theorem w_777 : (Jvm.Cond.instanceMethod ({ cls := "NeverLike", name := "turned", desc := "()I" } : Jvm.MethodName)) ∈ m_T := mt_4 57 rfl rfl
theorem w_778 : (Jvm.Cond.selects "NeverLike" ({ cls := "NeverLike", name := "turned", desc := "()I" } : Jvm.MethodName) ({ cls := "NeverLike", name := "turned", desc := "()I" } : Jvm.MethodName)) ∈ m_T := mt_4 58 rfl rfl
theorem w_779 : (Jvm.Cond.code ({ cls := "NeverLike", name := "turned", desc := "()I" } : Jvm.MethodName) prog_1_method_21_code (2 : Nat) (Option.some Jvm.ClassFile.FieldType.int)) ∈ m_T := mt_4 59 rfl rfl
theorem w_780 : (Jvm.Cond.methodLink "NeverLikeLaw" (97 : Nat) ({ cls := "NeverLike", name := "touched", desc := "(I)I" } : Jvm.MethodName)) ∈ m_T := mt_4 60 rfl rfl
theorem w_781 : (Jvm.Cond.instanceMethod ({ cls := "NeverLike", name := "touched", desc := "(I)I" } : Jvm.MethodName)) ∈ m_T := mt_4 61 rfl rfl
theorem w_782 : (Jvm.Cond.selects "NeverLike" ({ cls := "NeverLike", name := "touched", desc := "(I)I" } : Jvm.MethodName) ({ cls := "NeverLike", name := "touched", desc := "(I)I" } : Jvm.MethodName)) ∈ m_T := mt_4 62 rfl rfl
theorem w_783 : (Jvm.Cond.code ({ cls := "NeverLike", name := "touched", desc := "(I)I" } : Jvm.MethodName) prog_1_method_22_code (2 : Nat) (Option.some Jvm.ClassFile.FieldType.int)) ∈ m_T := mt_4 63 rfl rfl
theorem w_784 : (Jvm.Cond.methodLink "NeverLike" (251 : Nat) ({ cls := "NeverLike$Search", name := "changedIn", desc := "(I)I" } : Jvm.MethodName)) ∈ m_T := mt_4 64 rfl rfl
theorem w_785 : (Jvm.Cond.instanceMethod ({ cls := "NeverLike$Search", name := "changedIn", desc := "(I)I" } : Jvm.MethodName)) ∈ m_T := mt_4 65 rfl rfl
theorem w_786 : (Jvm.Cond.selects "NeverLike$Search" ({ cls := "NeverLike$Search", name := "changedIn", desc := "(I)I" } : Jvm.MethodName) ({ cls := "NeverLike$Search", name := "changedIn", desc := "(I)I" } : Jvm.MethodName)) ∈ m_T := mt_4 66 rfl rfl
theorem w_787 : (Jvm.Cond.code ({ cls := "NeverLike$Search", name := "changedIn", desc := "(I)I" } : Jvm.MethodName) prog_7_method_21_code (4 : Nat) (Option.some Jvm.ClassFile.FieldType.int)) ∈ m_T := mt_4 67 rfl rfl
theorem w_788 : (Jvm.Cond.methodLink "NeverLikeLaw" (101 : Nat) ({ cls := "NeverLike", name := "worth", desc := "(I)J" } : Jvm.MethodName)) ∈ m_T := mt_4 68 rfl rfl
theorem w_789 : (Jvm.Cond.instanceMethod ({ cls := "NeverLike", name := "worth", desc := "(I)J" } : Jvm.MethodName)) ∈ m_T := mt_4 69 rfl rfl
theorem w_790 : (Jvm.Cond.selects "NeverLike" ({ cls := "NeverLike", name := "worth", desc := "(I)J" } : Jvm.MethodName) ({ cls := "NeverLike", name := "worth", desc := "(I)J" } : Jvm.MethodName)) ∈ m_T := mt_4 70 rfl rfl
theorem w_791 : (Jvm.Cond.code ({ cls := "NeverLike", name := "worth", desc := "(I)J" } : Jvm.MethodName) prog_1_method_23_code (3 : Nat) (Option.some Jvm.ClassFile.FieldType.long)) ∈ m_T := mt_4 71 rfl rfl
theorem w_792 : (Jvm.Cond.constantLong "NeverLike" (254 : Nat) (-4611686018427387904 : Int64)) ∈ m_T := mt_4 72 rfl rfl
theorem w_793 : (Jvm.Cond.methodLink "NeverLike" (256 : Nat) ({ cls := "NeverLike", name := "joyOf", desc := "(I)I" } : Jvm.MethodName)) ∈ m_T := mt_4 73 rfl rfl
theorem w_795 : (Jvm.Cond.instanceMethod ({ cls := "NeverLike", name := "joyOf", desc := "(I)I" } : Jvm.MethodName)) ∈ m_T := mt_4 75 rfl rfl
theorem w_796 : (Jvm.Cond.code ({ cls := "NeverLike", name := "joyOf", desc := "(I)I" } : Jvm.MethodName) prog_1_method_46_code (3 : Nat) (Option.some Jvm.ClassFile.FieldType.int)) ∈ m_T := mt_4 76 rfl rfl
theorem w_797 : (Jvm.Cond.methodLink "NeverLike" (340 : Nat) ({ cls := "NeverLike$Text", name := "joy", desc := "([I)I" } : Jvm.MethodName)) ∈ m_T := mt_4 77 rfl rfl
theorem w_798 : (Jvm.Cond.instanceMethod ({ cls := "NeverLike$Text", name := "joy", desc := "([I)I" } : Jvm.MethodName)) ∈ m_T := mt_4 78 rfl rfl
theorem w_799 : (Jvm.Cond.selects "NeverLike$Text" ({ cls := "NeverLike$Text", name := "joy", desc := "([I)I" } : Jvm.MethodName) ({ cls := "NeverLike$Text", name := "joy", desc := "([I)I" } : Jvm.MethodName)) ∈ m_T := mt_4 79 rfl rfl
theorem w_800 : (Jvm.Cond.code ({ cls := "NeverLike$Text", name := "joy", desc := "([I)I" } : Jvm.MethodName) prog_11_method_4_code (2 : Nat) (Option.some Jvm.ClassFile.FieldType.int)) ∈ m_T := mt_4 80 rfl rfl
theorem w_801 : (Jvm.Cond.methodLink "NeverLike" (259 : Nat) ({ cls := "NeverLike$Search", name := "mostWorth", desc := "([I)I" } : Jvm.MethodName)) ∈ m_T := mt_4 81 rfl rfl
theorem w_802 : (Jvm.Cond.instanceMethod ({ cls := "NeverLike$Search", name := "mostWorth", desc := "([I)I" } : Jvm.MethodName)) ∈ m_T := mt_4 82 rfl rfl
theorem w_803 : (Jvm.Cond.selects "NeverLike$Search" ({ cls := "NeverLike$Search", name := "mostWorth", desc := "([I)I" } : Jvm.MethodName) ({ cls := "NeverLike$Search", name := "mostWorth", desc := "([I)I" } : Jvm.MethodName)) ∈ m_T := mt_4 83 rfl rfl
theorem w_804 : (Jvm.Cond.code ({ cls := "NeverLike$Search", name := "mostWorth", desc := "([I)I" } : Jvm.MethodName) prog_7_method_25_code (6 : Nat) (Option.some Jvm.ClassFile.FieldType.int)) ∈ m_T := mt_4 84 rfl rfl
theorem w_805 : (Jvm.Cond.methodLink "NeverLike$Search" (124 : Nat) ({ cls := "NeverLike$Search", name := "worthOf", desc := "(I[I)I" } : Jvm.MethodName)) ∈ m_T := mt_4 85 rfl rfl
theorem w_806 : (Jvm.Cond.instanceMethod ({ cls := "NeverLike$Search", name := "worthOf", desc := "(I[I)I" } : Jvm.MethodName)) ∈ m_T := mt_4 86 rfl rfl
theorem w_807 : (Jvm.Cond.selects "NeverLike$Search" ({ cls := "NeverLike$Search", name := "worthOf", desc := "(I[I)I" } : Jvm.MethodName) ({ cls := "NeverLike$Search", name := "worthOf", desc := "(I[I)I" } : Jvm.MethodName)) ∈ m_T := mt_4 87 rfl rfl
theorem w_808 : (Jvm.Cond.code ({ cls := "NeverLike$Search", name := "worthOf", desc := "(I[I)I" } : Jvm.MethodName) prog_7_method_24_code (5 : Nat) (Option.some Jvm.ClassFile.FieldType.int)) ∈ m_T := mt_4 88 rfl rfl
theorem w_809 : (Jvm.Cond.methodLink "NeverLike" (262 : Nat) ({ cls := "NeverLike$Search", name := "worthOf", desc := "(I[I)I" } : Jvm.MethodName)) ∈ m_T := mt_4 89 rfl rfl
theorem w_810 : (Jvm.Cond.methodLink "NeverLikeLaw" (106 : Nat) ({ cls := "NeverLike", name := "judge", desc := "(II)I" } : Jvm.MethodName)) ∈ m_T := mt_4 90 rfl rfl
theorem w_811 : (Jvm.Cond.instanceMethod ({ cls := "NeverLike", name := "judge", desc := "(II)I" } : Jvm.MethodName)) ∈ m_T := mt_4 91 rfl rfl
theorem w_812 : (Jvm.Cond.selects "NeverLike" ({ cls := "NeverLike", name := "judge", desc := "(II)I" } : Jvm.MethodName) ({ cls := "NeverLike", name := "judge", desc := "(II)I" } : Jvm.MethodName)) ∈ m_T := mt_4 92 rfl rfl
theorem w_813 : (Jvm.Cond.code ({ cls := "NeverLike", name := "judge", desc := "(II)I" } : Jvm.MethodName) prog_1_method_24_code (7 : Nat) (Option.some Jvm.ClassFile.FieldType.int)) ∈ m_T := mt_4 93 rfl rfl
theorem w_814 : (Jvm.Cond.methodLink "NeverLike" (265 : Nat) ({ cls := "NeverLike", name := "isSheet", desc := "(I)Z" } : Jvm.MethodName)) ∈ m_T := mt_4 94 rfl rfl
theorem w_815 : (Jvm.Cond.static ({ cls := "NeverLike", name := "isSheet", desc := "(I)Z" } : Jvm.MethodName)) ∈ m_T := mt_4 95 rfl rfl
theorem w_816 : (Jvm.Cond.code ({ cls := "NeverLike", name := "isSheet", desc := "(I)Z" } : Jvm.MethodName) prog_1_method_36_code (1 : Nat) (Option.some Jvm.ClassFile.FieldType.boolean)) ∈ m_T := mt_4 96 rfl rfl
theorem w_817 : (Jvm.Cond.methodLink "NeverLike" (271 : Nat) ({ cls := "NeverLike", name := "tryStep", desc := "(I)I" } : Jvm.MethodName)) ∈ m_T := mt_4 97 rfl rfl
theorem w_819 : (Jvm.Cond.instanceMethod ({ cls := "NeverLike", name := "tryStep", desc := "(I)I" } : Jvm.MethodName)) ∈ m_T := mt_4 99 rfl rfl
theorem w_820 : (Jvm.Cond.code ({ cls := "NeverLike", name := "tryStep", desc := "(I)I" } : Jvm.MethodName) prog_1_method_43_code (4 : Nat) (Option.some Jvm.ClassFile.FieldType.int)) ∈ m_T := mt_4 100 rfl rfl
theorem w_821 : (Jvm.Cond.methodLink "NeverLikeLaw" (110 : Nat) ({ cls := "NeverLike", name := "drawn", desc := "(II)I" } : Jvm.MethodName)) ∈ m_T := mt_4 101 rfl rfl
theorem w_822 : (Jvm.Cond.instanceMethod ({ cls := "NeverLike", name := "drawn", desc := "(II)I" } : Jvm.MethodName)) ∈ m_T := mt_4 102 rfl rfl
theorem w_823 : (Jvm.Cond.selects "NeverLike" ({ cls := "NeverLike", name := "drawn", desc := "(II)I" } : Jvm.MethodName) ({ cls := "NeverLike", name := "drawn", desc := "(II)I" } : Jvm.MethodName)) ∈ m_T := mt_4 103 rfl rfl
theorem w_824 : (Jvm.Cond.code ({ cls := "NeverLike", name := "drawn", desc := "(II)I" } : Jvm.MethodName) prog_1_method_25_code (5 : Nat) (Option.some Jvm.ClassFile.FieldType.int)) ∈ m_T := mt_4 104 rfl rfl
theorem w_825 : (Jvm.Cond.constant "NeverLike" (274 : Nat) (1103515245 : Int32)) ∈ m_T := mt_4 105 rfl rfl
theorem w_826 : (Jvm.Cond.methodLink "NeverLikeLaw" (114 : Nat) ({ cls := "NeverLike", name := "image", desc := "()I" } : Jvm.MethodName)) ∈ m_T := mt_4 106 rfl rfl
theorem w_827 : (Jvm.Cond.instanceMethod ({ cls := "NeverLike", name := "image", desc := "()I" } : Jvm.MethodName)) ∈ m_T := mt_4 107 rfl rfl
theorem w_828 : (Jvm.Cond.selects "NeverLike" ({ cls := "NeverLike", name := "image", desc := "()I" } : Jvm.MethodName) ({ cls := "NeverLike", name := "image", desc := "()I" } : Jvm.MethodName)) ∈ m_T := mt_4 108 rfl rfl
theorem w_829 : (Jvm.Cond.code ({ cls := "NeverLike", name := "image", desc := "()I" } : Jvm.MethodName) prog_1_method_26_code (1 : Nat) (Option.some Jvm.ClassFile.FieldType.int)) ∈ m_T := mt_4 109 rfl rfl
theorem w_830 : (Jvm.Cond.methodLink "NeverLike" (275 : Nat) ({ cls := "NeverLike$Town", name := "takeFrom", desc := "(LNeverLike$Town;)V" } : Jvm.MethodName)) ∈ m_T := mt_4 110 rfl rfl
theorem w_831 : (Jvm.Cond.instanceMethod ({ cls := "NeverLike$Town", name := "takeFrom", desc := "(LNeverLike$Town;)V" } : Jvm.MethodName)) ∈ m_T := mt_4 111 rfl rfl
theorem w_832 : (Jvm.Cond.selects "NeverLike$Town" ({ cls := "NeverLike$Town", name := "takeFrom", desc := "(LNeverLike$Town;)V" } : Jvm.MethodName) ({ cls := "NeverLike$Town", name := "takeFrom", desc := "(LNeverLike$Town;)V" } : Jvm.MethodName)) ∈ m_T := mt_4 112 rfl rfl
theorem w_833 : (Jvm.Cond.code ({ cls := "NeverLike$Town", name := "takeFrom", desc := "(LNeverLike$Town;)V" } : Jvm.MethodName) prog_12_method_3_code (2 : Nat) (Option.none : Option Jvm.ClassFile.FieldType)) ∈ m_T := mt_4 113 rfl rfl
theorem w_834 : (Jvm.Cond.methodLink "NeverLike$Town" (49 : Nat) ({ cls := "java/lang/System", name := "arraycopy", desc := "(Ljava/lang/Object;ILjava/lang/Object;II)V" } : Jvm.MethodName)) ∈ m_T := mt_4 114 rfl rfl
theorem w_835 : (Jvm.Cond.methodLink "NeverLikeLaw" (118 : Nat) ({ cls := "NeverLike", name := "back", desc := "()I" } : Jvm.MethodName)) ∈ m_T := mt_4 115 rfl rfl
theorem w_836 : (Jvm.Cond.instanceMethod ({ cls := "NeverLike", name := "back", desc := "()I" } : Jvm.MethodName)) ∈ m_T := mt_4 116 rfl rfl
theorem w_837 : (Jvm.Cond.selects "NeverLike" ({ cls := "NeverLike", name := "back", desc := "()I" } : Jvm.MethodName) ({ cls := "NeverLike", name := "back", desc := "()I" } : Jvm.MethodName)) ∈ m_T := mt_4 117 rfl rfl
theorem w_838 : (Jvm.Cond.code ({ cls := "NeverLike", name := "back", desc := "()I" } : Jvm.MethodName) prog_1_method_27_code (1 : Nat) (Option.some Jvm.ClassFile.FieldType.int)) ∈ m_T := mt_4 118 rfl rfl
theorem w_839 : (Jvm.Cond.methodLink "NeverLikeLaw" (122 : Nat) ({ cls := "NeverLike", name := "count", desc := "(I)I" } : Jvm.MethodName)) ∈ m_T := mt_4 119 rfl rfl
theorem w_840 : (Jvm.Cond.instanceMethod ({ cls := "NeverLike", name := "count", desc := "(I)I" } : Jvm.MethodName)) ∈ m_T := mt_4 120 rfl rfl
theorem w_841 : (Jvm.Cond.selects "NeverLike" ({ cls := "NeverLike", name := "count", desc := "(I)I" } : Jvm.MethodName) ({ cls := "NeverLike", name := "count", desc := "(I)I" } : Jvm.MethodName)) ∈ m_T := mt_4 121 rfl rfl
theorem w_842 : (Jvm.Cond.code ({ cls := "NeverLike", name := "count", desc := "(I)I" } : Jvm.MethodName) prog_1_method_28_code (2 : Nat) (Option.some Jvm.ClassFile.FieldType.int)) ∈ m_T := mt_4 122 rfl rfl
theorem w_843 : (Jvm.Cond.methodLink "NeverLikeLaw" (126 : Nat) ({ cls := "NeverLike", name := "sheet", desc := "(III)I" } : Jvm.MethodName)) ∈ m_T := mt_4 123 rfl rfl
theorem w_844 : (Jvm.Cond.instanceMethod ({ cls := "NeverLike", name := "sheet", desc := "(III)I" } : Jvm.MethodName)) ∈ m_T := mt_4 124 rfl rfl
theorem w_845 : (Jvm.Cond.selects "NeverLike" ({ cls := "NeverLike", name := "sheet", desc := "(III)I" } : Jvm.MethodName) ({ cls := "NeverLike", name := "sheet", desc := "(III)I" } : Jvm.MethodName)) ∈ m_T := mt_4 125 rfl rfl
theorem w_846 : (Jvm.Cond.code ({ cls := "NeverLike", name := "sheet", desc := "(III)I" } : Jvm.MethodName) prog_1_method_29_code (4 : Nat) (Option.some Jvm.ClassFile.FieldType.int)) ∈ m_T := mt_4 126 rfl rfl
theorem w_847 : (Jvm.Cond.instantiable "NeverLike$Sheet" (2 : Nat)) ∈ m_T := mt_4 127 rfl rfl
theorem w_848 : (Jvm.Cond.methodLink "NeverLike" (278 : Nat) ({ cls := "NeverLike$Sheet", name := "<init>", desc := "(II)V" } : Jvm.MethodName)) ∈ m_T := mt_4 128 rfl rfl
theorem w_849 : (Jvm.Cond.instanceMethod ({ cls := "NeverLike$Sheet", name := "<init>", desc := "(II)V" } : Jvm.MethodName)) ∈ m_T := mt_4 129 rfl rfl
theorem w_850 : (Jvm.Cond.code ({ cls := "NeverLike$Sheet", name := "<init>", desc := "(II)V" } : Jvm.MethodName) prog_8_method_1_code (3 : Nat) (Option.none : Option Jvm.ClassFile.FieldType)) ∈ m_T := mt_4 130 rfl rfl
theorem w_851 : (Jvm.Cond.methodLink "NeverLike$Sheet" (1 : Nat) ({ cls := "java/lang/Object", name := "<init>", desc := "()V" } : Jvm.MethodName)) ∈ m_T := mt_4 131 rfl rfl
theorem w_852 : (Jvm.Cond.fieldLink "NeverLike$Sheet" (7 : Nat) "NeverLike$Sheet" "sort" "I") ∈ m_T := mt_4 132 rfl rfl
theorem w_853 : (Jvm.Cond.fieldLink "NeverLike" (285 : Nat) "NeverLike$Sheet" "sort" "I") ∈ m_T := mt_4 133 rfl rfl
theorem w_854 : (Jvm.Cond.fieldLink "NeverLike$Sheet" (13 : Nat) "NeverLike$Sheet" "items" "[I") ∈ m_T := mt_4 134 rfl rfl
theorem w_855 : (Jvm.Cond.fieldLink "NeverLike" (268 : Nat) "NeverLike$Sheet" "items" "[I") ∈ m_T := mt_4 135 rfl rfl
theorem w_861 : (Jvm.Cond.methodLink "NeverLikeLaw" (130 : Nat) ({ cls := "NeverLike", name := "cell", desc := "(III)I" } : Jvm.MethodName)) ∈ m_T := mt_4 141 rfl rfl
theorem w_862 : (Jvm.Cond.instanceMethod ({ cls := "NeverLike", name := "cell", desc := "(III)I" } : Jvm.MethodName)) ∈ m_T := mt_4 142 rfl rfl
theorem w_863 : (Jvm.Cond.selects "NeverLike" ({ cls := "NeverLike", name := "cell", desc := "(III)I" } : Jvm.MethodName) ({ cls := "NeverLike", name := "cell", desc := "(III)I" } : Jvm.MethodName)) ∈ m_T := mt_4 143 rfl rfl
theorem w_864 : (Jvm.Cond.code ({ cls := "NeverLike", name := "cell", desc := "(III)I" } : Jvm.MethodName) prog_1_method_30_code (5 : Nat) (Option.some Jvm.ClassFile.FieldType.int)) ∈ m_T := mt_4 144 rfl rfl
theorem w_865 : (Jvm.Cond.methodLink "NeverLike" (280 : Nat) ({ cls := "NeverLike$Sheet", name := "has", desc := "(I)Z" } : Jvm.MethodName)) ∈ m_T := mt_4 145 rfl rfl
theorem w_866 : (Jvm.Cond.instanceMethod ({ cls := "NeverLike$Sheet", name := "has", desc := "(I)Z" } : Jvm.MethodName)) ∈ m_T := mt_4 146 rfl rfl
theorem w_867 : (Jvm.Cond.selects "NeverLike$Sheet" ({ cls := "NeverLike$Sheet", name := "has", desc := "(I)Z" } : Jvm.MethodName) ({ cls := "NeverLike$Sheet", name := "has", desc := "(I)Z" } : Jvm.MethodName)) ∈ m_T := mt_4 147 rfl rfl
theorem w_868 : (Jvm.Cond.code ({ cls := "NeverLike$Sheet", name := "has", desc := "(I)Z" } : Jvm.MethodName) prog_8_method_2_code (2 : Nat) (Option.some Jvm.ClassFile.FieldType.boolean)) ∈ m_T := mt_4 148 rfl rfl
theorem w_869 : (Jvm.Cond.methodLink "NeverLike" (283 : Nat) ({ cls := "NeverLike$Sheet", name := "put", desc := "(II)V" } : Jvm.MethodName)) ∈ m_T := mt_4 149 rfl rfl
theorem w_870 : (Jvm.Cond.instanceMethod ({ cls := "NeverLike$Sheet", name := "put", desc := "(II)V" } : Jvm.MethodName)) ∈ m_T := mt_4 150 rfl rfl
theorem w_871 : (Jvm.Cond.selects "NeverLike$Sheet" ({ cls := "NeverLike$Sheet", name := "put", desc := "(II)V" } : Jvm.MethodName) ({ cls := "NeverLike$Sheet", name := "put", desc := "(II)V" } : Jvm.MethodName)) ∈ m_T := mt_4 151 rfl rfl
theorem w_872 : (Jvm.Cond.code ({ cls := "NeverLike$Sheet", name := "put", desc := "(II)V" } : Jvm.MethodName) prog_8_method_4_code (3 : Nat) (Option.none : Option Jvm.ClassFile.FieldType)) ∈ m_T := mt_4 152 rfl rfl
theorem w_873 : (Jvm.Cond.methodLink "NeverLikeLaw" (134 : Nat) ({ cls := "NeverLike", name := "copy", desc := "(IIIII)I" } : Jvm.MethodName)) ∈ m_T := mt_4 153 rfl rfl
theorem w_874 : (Jvm.Cond.instanceMethod ({ cls := "NeverLike", name := "copy", desc := "(IIIII)I" } : Jvm.MethodName)) ∈ m_T := mt_4 154 rfl rfl
theorem w_875 : (Jvm.Cond.selects "NeverLike" ({ cls := "NeverLike", name := "copy", desc := "(IIIII)I" } : Jvm.MethodName) ({ cls := "NeverLike", name := "copy", desc := "(IIIII)I" } : Jvm.MethodName)) ∈ m_T := mt_4 155 rfl rfl
theorem w_876 : (Jvm.Cond.code ({ cls := "NeverLike", name := "copy", desc := "(IIIII)I" } : Jvm.MethodName) prog_1_method_31_code (8 : Nat) (Option.some Jvm.ClassFile.FieldType.int)) ∈ m_T := mt_4 156 rfl rfl
theorem w_877 : (Jvm.Cond.methodLink "NeverLike" (288 : Nat) ({ cls := "NeverLike$Sheet", name := "hasRow", desc := "(II)Z" } : Jvm.MethodName)) ∈ m_T := mt_4 157 rfl rfl
theorem w_878 : (Jvm.Cond.instanceMethod ({ cls := "NeverLike$Sheet", name := "hasRow", desc := "(II)Z" } : Jvm.MethodName)) ∈ m_T := mt_4 158 rfl rfl
theorem w_879 : (Jvm.Cond.selects "NeverLike$Sheet" ({ cls := "NeverLike$Sheet", name := "hasRow", desc := "(II)Z" } : Jvm.MethodName) ({ cls := "NeverLike$Sheet", name := "hasRow", desc := "(II)Z" } : Jvm.MethodName)) ∈ m_T := mt_4 159 rfl rfl
theorem w_880 : (Jvm.Cond.code ({ cls := "NeverLike$Sheet", name := "hasRow", desc := "(II)Z" } : Jvm.MethodName) prog_8_method_3_code (3 : Nat) (Option.some Jvm.ClassFile.FieldType.boolean)) ∈ m_T := mt_4 160 rfl rfl
theorem w_881 : (Jvm.Cond.methodLink "NeverLikeLaw" (139 : Nat) ({ cls := "NeverLike", name := "paints", desc := "(IIII)I" } : Jvm.MethodName)) ∈ m_T := mt_4 161 rfl rfl
theorem w_882 : (Jvm.Cond.instanceMethod ({ cls := "NeverLike", name := "paints", desc := "(IIII)I" } : Jvm.MethodName)) ∈ m_T := mt_4 162 rfl rfl
theorem w_883 : (Jvm.Cond.selects "NeverLike" ({ cls := "NeverLike", name := "paints", desc := "(IIII)I" } : Jvm.MethodName) ({ cls := "NeverLike", name := "paints", desc := "(IIII)I" } : Jvm.MethodName)) ∈ m_T := mt_4 163 rfl rfl
theorem w_884 : (Jvm.Cond.code ({ cls := "NeverLike", name := "paints", desc := "(IIII)I" } : Jvm.MethodName) prog_1_method_32_code (9 : Nat) (Option.some Jvm.ClassFile.FieldType.int)) ∈ m_T := mt_4 164 rfl rfl
theorem w_885 : (Jvm.Cond.methodLink "NeverLike" (291 : Nat) ({ cls := "NeverLike", name := "paint", desc := "(II)I" } : Jvm.MethodName)) ∈ m_T := mt_4 165 rfl rfl
theorem w_886 : (Jvm.Cond.methodLink "NeverLikeLaw" (144 : Nat) ({ cls := "NeverLike", name := "taken", desc := "(II)I" } : Jvm.MethodName)) ∈ m_T := mt_4 166 rfl rfl
theorem w_887 : (Jvm.Cond.instanceMethod ({ cls := "NeverLike", name := "taken", desc := "(II)I" } : Jvm.MethodName)) ∈ m_T := mt_4 167 rfl rfl
theorem w_888 : (Jvm.Cond.selects "NeverLike" ({ cls := "NeverLike", name := "taken", desc := "(II)I" } : Jvm.MethodName) ({ cls := "NeverLike", name := "taken", desc := "(II)I" } : Jvm.MethodName)) ∈ m_T := mt_4 168 rfl rfl
theorem w_889 : (Jvm.Cond.code ({ cls := "NeverLike", name := "taken", desc := "(II)I" } : Jvm.MethodName) prog_1_method_33_code (4 : Nat) (Option.some Jvm.ClassFile.FieldType.int)) ∈ m_T := mt_4 169 rfl rfl
theorem w_890 : (Jvm.Cond.methodLink "NeverLike" (294 : Nat) ({ cls := "NeverLike", name := "isOfKind", desc := "(LNeverLike$Painter;I)Z" } : Jvm.MethodName)) ∈ m_T := mt_4 170 rfl rfl
theorem w_891 : (Jvm.Cond.static ({ cls := "NeverLike", name := "isOfKind", desc := "(LNeverLike$Painter;I)Z" } : Jvm.MethodName)) ∈ m_T := mt_4 171 rfl rfl
theorem w_892 : (Jvm.Cond.code ({ cls := "NeverLike", name := "isOfKind", desc := "(LNeverLike$Painter;I)Z" } : Jvm.MethodName) prog_1_method_41_code (2 : Nat) (Option.some Jvm.ClassFile.FieldType.boolean)) ∈ m_T := mt_4 172 rfl rfl
theorem w_893 : (Jvm.Cond.classLink "NeverLikeLaw" (10 : Nat) "NeverLikeModel") ∈ m_T := mt_4 173 rfl rfl
theorem w_894 : (Jvm.Cond.instantiable "NeverLikeModel" (42 : Nat)) ∈ m_T := mt_4 174 rfl rfl
theorem w_895 : (Jvm.Cond.methodLink "NeverLikeLaw" (12 : Nat) ({ cls := "NeverLikeModel", name := "<init>", desc := "()V" } : Jvm.MethodName)) ∈ m_T := mt_4 175 rfl rfl
theorem w_896 : (Jvm.Cond.instanceMethod ({ cls := "NeverLikeModel", name := "<init>", desc := "()V" } : Jvm.MethodName)) ∈ m_T := mt_4 176 rfl rfl
theorem w_897 : (Jvm.Cond.code ({ cls := "NeverLikeModel", name := "<init>", desc := "()V" } : Jvm.MethodName) prog_14_method_1_code (2 : Nat) (Option.none : Option Jvm.ClassFile.FieldType)) ∈ m_T := mt_4 177 rfl rfl
theorem w_898 : (Jvm.Cond.methodLink "NeverLikeModel" (1 : Nat) ({ cls := "java/lang/Object", name := "<init>", desc := "()V" } : Jvm.MethodName)) ∈ m_T := mt_4 178 rfl rfl
theorem w_899 : (Jvm.Cond.classLink "NeverLikeModel" (32 : Nat) "[I") ∈ m_T := mt_4 179 rfl rfl
theorem w_901 : (Jvm.Cond.methodLink "NeverLikeModel" (91 : Nat) ({ cls := "NeverLikeModel", name := "begins", desc := "(II)V" } : Jvm.MethodName)) ∈ m_T := mt_4 181 rfl rfl
theorem w_903 : (Jvm.Cond.instanceMethod ({ cls := "NeverLikeModel", name := "begins", desc := "(II)V" } : Jvm.MethodName)) ∈ m_T := mt_4 183 rfl rfl
theorem w_904 : (Jvm.Cond.code ({ cls := "NeverLikeModel", name := "begins", desc := "(II)V" } : Jvm.MethodName) prog_14_method_3_code (4 : Nat) (Option.none : Option Jvm.ClassFile.FieldType)) ∈ m_T := mt_4 184 rfl rfl
theorem w_905 : (Jvm.Cond.methodLink "NeverLikeModel" (95 : Nat) ({ cls := "NeverLikeModel", name := "firstRule", desc := "()V" } : Jvm.MethodName)) ∈ m_T := mt_4 185 rfl rfl
theorem w_907 : (Jvm.Cond.instanceMethod ({ cls := "NeverLikeModel", name := "firstRule", desc := "()V" } : Jvm.MethodName)) ∈ m_T := mt_4 187 rfl rfl
theorem w_908 : (Jvm.Cond.code ({ cls := "NeverLikeModel", name := "firstRule", desc := "()V" } : Jvm.MethodName) prog_14_method_21_code (1 : Nat) (Option.none : Option Jvm.ClassFile.FieldType)) ∈ m_T := mt_4 188 rfl rfl
theorem w_909 : (Jvm.Cond.methodLink "NeverLikeModel" (144 : Nat) ({ cls := "NeverLikeModel", name := "writes", desc := "(I)V" } : Jvm.MethodName)) ∈ m_T := mt_4 189 rfl rfl
theorem w_911 : (Jvm.Cond.instanceMethod ({ cls := "NeverLikeModel", name := "writes", desc := "(I)V" } : Jvm.MethodName)) ∈ m_T := mt_4 191 rfl rfl
theorem w_912 : (Jvm.Cond.code ({ cls := "NeverLikeModel", name := "writes", desc := "(I)V" } : Jvm.MethodName) prog_14_method_20_code (2 : Nat) (Option.none : Option Jvm.ClassFile.FieldType)) ∈ m_T := mt_4 192 rfl rfl
theorem w_913 : (Jvm.Cond.fieldLink "NeverLikeModel" (7 : Nat) "NeverLikeModel" "touching" "[I") ∈ m_T := mt_4 193 rfl rfl
theorem w_914 : (Jvm.Cond.fieldLink "NeverLikeModel" (13 : Nat) "NeverLikeModel" "colour" "[I") ∈ m_T := mt_4 194 rfl rfl
theorem w_915 : (Jvm.Cond.fieldLink "NeverLikeModel" (16 : Nat) "NeverLikeModel" "wish" "[I") ∈ m_T := mt_4 195 rfl rfl
theorem w_916 : (Jvm.Cond.fieldLink "NeverLikeModel" (19 : Nat) "NeverLikeModel" "painterKind" "[I") ∈ m_T := mt_4 196 rfl rfl
theorem w_917 : (Jvm.Cond.fieldLink "NeverLikeModel" (22 : Nat) "NeverLikeModel" "painterNumber" "[I") ∈ m_T := mt_4 197 rfl rfl
theorem w_918 : (Jvm.Cond.fieldLink "NeverLikeModel" (25 : Nat) "NeverLikeModel" "houses" "I") ∈ m_T := mt_4 198 rfl rfl
theorem w_919 : (Jvm.Cond.fieldLink "NeverLikeModel" (29 : Nat) "NeverLikeModel" "colours" "I") ∈ m_T := mt_4 199 rfl rfl
theorem w_920 : (Jvm.Cond.fieldLink "NeverLikeModel" (98 : Nat) "NeverLikeModel" "spring" "I") ∈ m_T := mt_4 200 rfl rfl
theorem w_921 : (Jvm.Cond.fieldLink "NeverLikeModel" (101 : Nat) "NeverLikeModel" "keeping" "I") ∈ m_T := mt_4 201 rfl rfl
theorem w_922 : (Jvm.Cond.fieldLink "NeverLikeModel" (127 : Nat) "NeverLikeModel" "painters" "I") ∈ m_T := mt_4 202 rfl rfl
theorem w_923 : (Jvm.Cond.fieldLink "NeverLikeModel" (215 : Nat) "NeverLikeModel" "theRule" "I") ∈ m_T := mt_4 203 rfl rfl
theorem w_924 : (Jvm.Cond.fieldLink "NeverLikeModel" (104 : Nat) "NeverLikeModel" "hasImage" "Z") ∈ m_T := mt_4 204 rfl rfl
theorem w_925 : (Jvm.Cond.fieldLink "NeverLikeModel" (33 : Nat) "NeverLikeModel" "words" "[[I") ∈ m_T := mt_4 205 rfl rfl
theorem w_926 : (Jvm.Cond.fieldLink "NeverLikeModel" (37 : Nat) "NeverLikeModel" "tape" "[I") ∈ m_T := mt_4 206 rfl rfl
theorem w_927 : (Jvm.Cond.fieldLink "NeverLikeModel" (40 : Nat) "NeverLikeModel" "codes" "[I") ∈ m_T := mt_4 207 rfl rfl
theorem w_928 : (Jvm.Cond.fieldLink "NeverLikeModel" (43 : Nat) "NeverLikeModel" "codeLong" "[I") ∈ m_T := mt_4 208 rfl rfl
theorem w_929 : (Jvm.Cond.fieldLink "NeverLikeModel" (46 : Nat) "NeverLikeModel" "held" "[I") ∈ m_T := mt_4 209 rfl rfl
theorem w_930 : (Jvm.Cond.fieldLink "NeverLikeModel" (49 : Nat) "NeverLikeModel" "stack" "[I") ∈ m_T := mt_4 210 rfl rfl
theorem w_931 : (Jvm.Cond.fieldLink "NeverLikeModel" (148 : Nat) "NeverLikeModel" "taped" "I") ∈ m_T := mt_4 211 rfl rfl
theorem w_932 : (Jvm.Cond.fieldLink "NeverLikeModel" (52 : Nat) "NeverLikeModel" "texts" "I") ∈ m_T := mt_4 212 rfl rfl
theorem w_933 : (Jvm.Cond.fieldLink "NeverLikeModel" (151 : Nat) "NeverLikeModel" "next" "I") ∈ m_T := mt_4 213 rfl rfl
theorem w_934 : (Jvm.Cond.fieldLink "NeverLikeModel" (160 : Nat) "NeverLikeModel" "token" "I") ∈ m_T := mt_4 214 rfl rfl
theorem w_935 : (Jvm.Cond.fieldLink "NeverLikeModel" (154 : Nat) "NeverLikeModel" "tokenAt" "I") ∈ m_T := mt_4 215 rfl rfl
theorem w_936 : (Jvm.Cond.fieldLink "NeverLikeModel" (163 : Nat) "NeverLikeModel" "value" "I") ∈ m_T := mt_4 216 rfl rfl
theorem w_937 : (Jvm.Cond.fieldLink "NeverLikeModel" (176 : Nat) "NeverLikeModel" "open" "I") ∈ m_T := mt_4 217 rfl rfl
theorem w_938 : (Jvm.Cond.fieldLink "NeverLikeModel" (173 : Nat) "NeverLikeModel" "heldMany" "I") ∈ m_T := mt_4 218 rfl rfl
theorem w_939 : (Jvm.Cond.fieldLink "NeverLikeModel" (141 : Nat) "NeverLikeModel" "row" "I") ∈ m_T := mt_4 219 rfl rfl
theorem w_940 : (Jvm.Cond.fieldLink "NeverLikeModel" (55 : Nat) "NeverLikeModel" "stepTable" "[I") ∈ m_T := mt_4 220 rfl rfl
theorem w_941 : (Jvm.Cond.fieldLink "NeverLikeModel" (58 : Nat) "NeverLikeModel" "unit" "[I") ∈ m_T := mt_4 221 rfl rfl
theorem w_942 : (Jvm.Cond.fieldLink "NeverLikeModel" (61 : Nat) "NeverLikeModel" "steps" "[I") ∈ m_T := mt_4 222 rfl rfl
theorem w_943 : (Jvm.Cond.fieldLink "NeverLikeModel" (64 : Nat) "NeverLikeModel" "costs" "[I") ∈ m_T := mt_4 223 rfl rfl
theorem w_944 : (Jvm.Cond.fieldLink "NeverLikeModel" (67 : Nat) "NeverLikeModel" "queue" "[I") ∈ m_T := mt_4 224 rfl rfl
theorem w_945 : (Jvm.Cond.fieldLink "NeverLikeModel" (70 : Nat) "NeverLikeModel" "part" "[I") ∈ m_T := mt_4 225 rfl rfl
theorem w_946 : (Jvm.Cond.fieldLink "NeverLikeModel" (73 : Nat) "NeverLikeModel" "keptColour" "[I") ∈ m_T := mt_4 226 rfl rfl
theorem w_947 : (Jvm.Cond.fieldLink "NeverLikeModel" (76 : Nat) "NeverLikeModel" "keptWish" "[I") ∈ m_T := mt_4 227 rfl rfl
theorem w_948 : (Jvm.Cond.fieldLink "NeverLikeModel" (304 : Nat) "NeverLikeModel" "keptSpring" "I") ∈ m_T := mt_4 228 rfl rfl
theorem w_949 : (Jvm.Cond.fieldLink "NeverLikeModel" (307 : Nat) "NeverLikeModel" "keptKeeping" "I") ∈ m_T := mt_4 229 rfl rfl
theorem w_950 : (Jvm.Cond.fieldLink "NeverLikeModel" (310 : Nat) "NeverLikeModel" "keptRule" "I") ∈ m_T := mt_4 230 rfl rfl
theorem w_951 : (Jvm.Cond.fieldLink "NeverLikeModel" (79 : Nat) "NeverLikeModel" "sort" "[I") ∈ m_T := mt_4 231 rfl rfl
theorem w_952 : (Jvm.Cond.fieldLink "NeverLikeModel" (82 : Nat) "NeverLikeModel" "size" "[I") ∈ m_T := mt_4 232 rfl rfl
theorem w_953 : (Jvm.Cond.fieldLink "NeverLikeModel" (85 : Nat) "NeverLikeModel" "cells" "[I") ∈ m_T := mt_4 233 rfl rfl
theorem w_954 : (Jvm.Cond.fieldLink "NeverLikeModel" (88 : Nat) "NeverLikeModel" "moved" "[I") ∈ m_T := mt_4 234 rfl rfl
theorem w_1040 : (Jvm.Cond.methodLink "NeverLikeLaw" (17 : Nat) ({ cls := "NeverLikeModel", name := "build", desc := "(II)I" } : Jvm.MethodName)) ∈ m_T := mt_5 80 rfl rfl
theorem w_1041 : (Jvm.Cond.instanceMethod ({ cls := "NeverLikeModel", name := "build", desc := "(II)I" } : Jvm.MethodName)) ∈ m_T := mt_5 81 rfl rfl
theorem w_1042 : (Jvm.Cond.selects "NeverLikeModel" ({ cls := "NeverLikeModel", name := "build", desc := "(II)I" } : Jvm.MethodName) ({ cls := "NeverLikeModel", name := "build", desc := "(II)I" } : Jvm.MethodName)) ∈ m_T := mt_5 82 rfl rfl
theorem w_1043 : (Jvm.Cond.code ({ cls := "NeverLikeModel", name := "build", desc := "(II)I" } : Jvm.MethodName) prog_14_method_9_code (4 : Nat) (Option.some Jvm.ClassFile.FieldType.int)) ∈ m_T := mt_5 83 rfl rfl
theorem w_1044 : (Jvm.Cond.methodLink "NeverLikeModel" (112 : Nat) ({ cls := "NeverLikeModel", name := "isIn", desc := "(III)Z" } : Jvm.MethodName)) ∈ m_T := mt_5 84 rfl rfl
theorem w_1045 : (Jvm.Cond.static ({ cls := "NeverLikeModel", name := "isIn", desc := "(III)Z" } : Jvm.MethodName)) ∈ m_T := mt_5 85 rfl rfl
theorem w_1046 : (Jvm.Cond.code ({ cls := "NeverLikeModel", name := "isIn", desc := "(III)Z" } : Jvm.MethodName) prog_14_method_2_code (3 : Nat) (Option.some Jvm.ClassFile.FieldType.boolean)) ∈ m_T := mt_5 86 rfl rfl
theorem w_1047 : (Jvm.Cond.methodLink "NeverLikeModel" (108 : Nat) ({ cls := "NeverLikeModel", name := "towns", desc := "(II)I" } : Jvm.MethodName)) ∈ m_T := mt_5 87 rfl rfl
theorem w_1048 : (Jvm.Cond.static ({ cls := "NeverLikeModel", name := "towns", desc := "(II)I" } : Jvm.MethodName)) ∈ m_T := mt_5 88 rfl rfl
theorem w_1049 : (Jvm.Cond.code ({ cls := "NeverLikeModel", name := "towns", desc := "(II)I" } : Jvm.MethodName) prog_14_method_6_code (4 : Nat) (Option.some Jvm.ClassFile.FieldType.int)) ∈ m_T := mt_5 89 rfl rfl
theorem w_1050 : (Jvm.Cond.methodLink "NeverLikeLaw" (22 : Nat) ({ cls := "NeverLikeModel", name := "touch", desc := "(III)I" } : Jvm.MethodName)) ∈ m_T := mt_5 90 rfl rfl
theorem w_1051 : (Jvm.Cond.instanceMethod ({ cls := "NeverLikeModel", name := "touch", desc := "(III)I" } : Jvm.MethodName)) ∈ m_T := mt_5 91 rfl rfl
theorem w_1052 : (Jvm.Cond.selects "NeverLikeModel" ({ cls := "NeverLikeModel", name := "touch", desc := "(III)I" } : Jvm.MethodName) ({ cls := "NeverLikeModel", name := "touch", desc := "(III)I" } : Jvm.MethodName)) ∈ m_T := mt_5 92 rfl rfl
theorem w_1053 : (Jvm.Cond.code ({ cls := "NeverLikeModel", name := "touch", desc := "(III)I" } : Jvm.MethodName) prog_14_method_11_code (5 : Nat) (Option.some Jvm.ClassFile.FieldType.int)) ∈ m_T := mt_5 93 rfl rfl
theorem w_1054 : (Jvm.Cond.methodLink "NeverLikeModel" (120 : Nat) ({ cls := "NeverLikeModel", name := "areTwo", desc := "(II)Z" } : Jvm.MethodName)) ∈ m_T := mt_5 94 rfl rfl
theorem w_1056 : (Jvm.Cond.instanceMethod ({ cls := "NeverLikeModel", name := "areTwo", desc := "(II)Z" } : Jvm.MethodName)) ∈ m_T := mt_5 96 rfl rfl
theorem w_1057 : (Jvm.Cond.code ({ cls := "NeverLikeModel", name := "areTwo", desc := "(II)Z" } : Jvm.MethodName) prog_14_method_10_code (3 : Nat) (Option.some Jvm.ClassFile.FieldType.boolean)) ∈ m_T := mt_5 97 rfl rfl
theorem w_1058 : (Jvm.Cond.methodLink "NeverLikeModel" (116 : Nat) ({ cls := "NeverLikeModel", name := "isHouse", desc := "(I)Z" } : Jvm.MethodName)) ∈ m_T := mt_5 98 rfl rfl
theorem w_1060 : (Jvm.Cond.instanceMethod ({ cls := "NeverLikeModel", name := "isHouse", desc := "(I)Z" } : Jvm.MethodName)) ∈ m_T := mt_5 100 rfl rfl
theorem w_1061 : (Jvm.Cond.code ({ cls := "NeverLikeModel", name := "isHouse", desc := "(I)Z" } : Jvm.MethodName) prog_14_method_4_code (2 : Nat) (Option.some Jvm.ClassFile.FieldType.boolean)) ∈ m_T := mt_5 101 rfl rfl
theorem w_1062 : (Jvm.Cond.methodLink "NeverLikeLaw" (26 : Nat) ({ cls := "NeverLikeModel", name := "set", desc := "(III)I" } : Jvm.MethodName)) ∈ m_T := mt_5 102 rfl rfl
theorem w_1063 : (Jvm.Cond.instanceMethod ({ cls := "NeverLikeModel", name := "set", desc := "(III)I" } : Jvm.MethodName)) ∈ m_T := mt_5 103 rfl rfl
theorem w_1064 : (Jvm.Cond.selects "NeverLikeModel" ({ cls := "NeverLikeModel", name := "set", desc := "(III)I" } : Jvm.MethodName) ({ cls := "NeverLikeModel", name := "set", desc := "(III)I" } : Jvm.MethodName)) ∈ m_T := mt_5 104 rfl rfl
theorem w_1065 : (Jvm.Cond.code ({ cls := "NeverLikeModel", name := "set", desc := "(III)I" } : Jvm.MethodName) prog_14_method_12_code (5 : Nat) (Option.some Jvm.ClassFile.FieldType.int)) ∈ m_T := mt_5 105 rfl rfl
theorem w_1066 : (Jvm.Cond.methodLink "NeverLikeModel" (124 : Nat) ({ cls := "NeverLikeModel", name := "isColour", desc := "(I)Z" } : Jvm.MethodName)) ∈ m_T := mt_5 106 rfl rfl
theorem w_1068 : (Jvm.Cond.instanceMethod ({ cls := "NeverLikeModel", name := "isColour", desc := "(I)Z" } : Jvm.MethodName)) ∈ m_T := mt_5 108 rfl rfl
theorem w_1069 : (Jvm.Cond.code ({ cls := "NeverLikeModel", name := "isColour", desc := "(I)Z" } : Jvm.MethodName) prog_14_method_5_code (2 : Nat) (Option.some Jvm.ClassFile.FieldType.boolean)) ∈ m_T := mt_5 109 rfl rfl
theorem w_1070 : (Jvm.Cond.methodLink "NeverLikeLaw" (30 : Nat) ({ cls := "NeverLikeModel", name := "told", desc := "(II)I" } : Jvm.MethodName)) ∈ m_T := mt_5 110 rfl rfl
theorem w_1071 : (Jvm.Cond.instanceMethod ({ cls := "NeverLikeModel", name := "told", desc := "(II)I" } : Jvm.MethodName)) ∈ m_T := mt_5 111 rfl rfl
theorem w_1072 : (Jvm.Cond.selects "NeverLikeModel" ({ cls := "NeverLikeModel", name := "told", desc := "(II)I" } : Jvm.MethodName) ({ cls := "NeverLikeModel", name := "told", desc := "(II)I" } : Jvm.MethodName)) ∈ m_T := mt_5 112 rfl rfl
theorem w_1073 : (Jvm.Cond.code ({ cls := "NeverLikeModel", name := "told", desc := "(II)I" } : Jvm.MethodName) prog_14_method_13_code (3 : Nat) (Option.some Jvm.ClassFile.FieldType.int)) ∈ m_T := mt_5 113 rfl rfl
theorem w_1074 : (Jvm.Cond.methodLink "NeverLikeLaw" (34 : Nat) ({ cls := "NeverLikeModel", name := "painter", desc := "(II)I" } : Jvm.MethodName)) ∈ m_T := mt_5 114 rfl rfl
theorem w_1075 : (Jvm.Cond.instanceMethod ({ cls := "NeverLikeModel", name := "painter", desc := "(II)I" } : Jvm.MethodName)) ∈ m_T := mt_5 115 rfl rfl
theorem w_1076 : (Jvm.Cond.selects "NeverLikeModel" ({ cls := "NeverLikeModel", name := "painter", desc := "(II)I" } : Jvm.MethodName) ({ cls := "NeverLikeModel", name := "painter", desc := "(II)I" } : Jvm.MethodName)) ∈ m_T := mt_5 116 rfl rfl
theorem w_1077 : (Jvm.Cond.code ({ cls := "NeverLikeModel", name := "painter", desc := "(II)I" } : Jvm.MethodName) prog_14_method_14_code (3 : Nat) (Option.some Jvm.ClassFile.FieldType.int)) ∈ m_T := mt_5 117 rfl rfl
theorem w_1078 : (Jvm.Cond.methodLink "NeverLikeLaw" (38 : Nat) ({ cls := "NeverLikeModel", name := "asks", desc := "(III)I" } : Jvm.MethodName)) ∈ m_T := mt_5 118 rfl rfl
theorem w_1079 : (Jvm.Cond.instanceMethod ({ cls := "NeverLikeModel", name := "asks", desc := "(III)I" } : Jvm.MethodName)) ∈ m_T := mt_5 119 rfl rfl
theorem w_1080 : (Jvm.Cond.selects "NeverLikeModel" ({ cls := "NeverLikeModel", name := "asks", desc := "(III)I" } : Jvm.MethodName) ({ cls := "NeverLikeModel", name := "asks", desc := "(III)I" } : Jvm.MethodName)) ∈ m_T := mt_5 120 rfl rfl
theorem w_1081 : (Jvm.Cond.code ({ cls := "NeverLikeModel", name := "asks", desc := "(III)I" } : Jvm.MethodName) prog_14_method_17_code (7 : Nat) (Option.some Jvm.ClassFile.FieldType.int)) ∈ m_T := mt_5 121 rfl rfl
theorem w_1082 : (Jvm.Cond.methodLink "NeverLikeModel" (130 : Nat) ({ cls := "NeverLikeModel", name := "costsOf", desc := "(IIII)I" } : Jvm.MethodName)) ∈ m_T := mt_5 122 rfl rfl
theorem w_1084 : (Jvm.Cond.instanceMethod ({ cls := "NeverLikeModel", name := "costsOf", desc := "(IIII)I" } : Jvm.MethodName)) ∈ m_T := mt_5 124 rfl rfl
theorem w_1085 : (Jvm.Cond.code ({ cls := "NeverLikeModel", name := "costsOf", desc := "(IIII)I" } : Jvm.MethodName) prog_14_method_15_code (7 : Nat) (Option.some Jvm.ClassFile.FieldType.int)) ∈ m_T := mt_5 125 rfl rfl
theorem w_1086 : (Jvm.Cond.methodLink "NeverLikeModel" (134 : Nat) ({ cls := "NeverLikeModel", name := "isWilling", desc := "(IIII)Z" } : Jvm.MethodName)) ∈ m_T := mt_5 126 rfl rfl
theorem w_1088 : (Jvm.Cond.instanceMethod ({ cls := "NeverLikeModel", name := "isWilling", desc := "(IIII)Z" } : Jvm.MethodName)) ∈ m_T := mt_5 128 rfl rfl
theorem w_1089 : (Jvm.Cond.code ({ cls := "NeverLikeModel", name := "isWilling", desc := "(IIII)Z" } : Jvm.MethodName) prog_14_method_16_code (6 : Nat) (Option.some Jvm.ClassFile.FieldType.boolean)) ∈ m_T := mt_5 129 rfl rfl
theorem w_1090 : (Jvm.Cond.methodLink "NeverLikeLaw" (147 : Nat) ({ cls := "NeverLikeModel", name := "taken", desc := "(II)I" } : Jvm.MethodName)) ∈ m_T := mt_5 130 rfl rfl
theorem w_1091 : (Jvm.Cond.instanceMethod ({ cls := "NeverLikeModel", name := "taken", desc := "(II)I" } : Jvm.MethodName)) ∈ m_T := mt_5 131 rfl rfl
theorem w_1092 : (Jvm.Cond.selects "NeverLikeModel" ({ cls := "NeverLikeModel", name := "taken", desc := "(II)I" } : Jvm.MethodName) ({ cls := "NeverLikeModel", name := "taken", desc := "(II)I" } : Jvm.MethodName)) ∈ m_T := mt_5 132 rfl rfl
theorem w_1093 : (Jvm.Cond.code ({ cls := "NeverLikeModel", name := "taken", desc := "(II)I" } : Jvm.MethodName) prog_14_method_19_code (3 : Nat) (Option.some Jvm.ClassFile.FieldType.int)) ∈ m_T := mt_5 133 rfl rfl
theorem w_1094 : (Jvm.Cond.methodLink "NeverLikeModel" (138 : Nat) ({ cls := "NeverLikeModel", name := "isUnder", desc := "(II)Z" } : Jvm.MethodName)) ∈ m_T := mt_5 134 rfl rfl
theorem w_1095 : (Jvm.Cond.static ({ cls := "NeverLikeModel", name := "isUnder", desc := "(II)Z" } : Jvm.MethodName)) ∈ m_T := mt_5 135 rfl rfl
theorem w_1096 : (Jvm.Cond.code ({ cls := "NeverLikeModel", name := "isUnder", desc := "(II)Z" } : Jvm.MethodName) prog_14_method_18_code (2 : Nat) (Option.some Jvm.ClassFile.FieldType.boolean)) ∈ m_T := mt_5 136 rfl rfl
theorem w_1097 : (Jvm.Cond.methodLink "NeverLikeLaw" (43 : Nat) ({ cls := "NeverLikeModel", name := "feed", desc := "(I)I" } : Jvm.MethodName)) ∈ m_T := mt_5 137 rfl rfl
theorem w_1098 : (Jvm.Cond.instanceMethod ({ cls := "NeverLikeModel", name := "feed", desc := "(I)I" } : Jvm.MethodName)) ∈ m_T := mt_5 138 rfl rfl
theorem w_1099 : (Jvm.Cond.selects "NeverLikeModel" ({ cls := "NeverLikeModel", name := "feed", desc := "(I)I" } : Jvm.MethodName) ({ cls := "NeverLikeModel", name := "feed", desc := "(I)I" } : Jvm.MethodName)) ∈ m_T := mt_5 139 rfl rfl
theorem w_1100 : (Jvm.Cond.code ({ cls := "NeverLikeModel", name := "feed", desc := "(I)I" } : Jvm.MethodName) prog_14_method_22_code (2 : Nat) (Option.some Jvm.ClassFile.FieldType.int)) ∈ m_T := mt_5 140 rfl rfl
theorem w_1101 : (Jvm.Cond.methodLink "NeverLikeLaw" (48 : Nat) ({ cls := "NeverLikeModel", name := "text", desc := "()I" } : Jvm.MethodName)) ∈ m_T := mt_5 141 rfl rfl
theorem w_1102 : (Jvm.Cond.instanceMethod ({ cls := "NeverLikeModel", name := "text", desc := "()I" } : Jvm.MethodName)) ∈ m_T := mt_5 142 rfl rfl
theorem w_1103 : (Jvm.Cond.selects "NeverLikeModel" ({ cls := "NeverLikeModel", name := "text", desc := "()I" } : Jvm.MethodName) ({ cls := "NeverLikeModel", name := "text", desc := "()I" } : Jvm.MethodName)) ∈ m_T := mt_5 143 rfl rfl
theorem w_1104 : (Jvm.Cond.code ({ cls := "NeverLikeModel", name := "text", desc := "()I" } : Jvm.MethodName) prog_14_method_37_code (3 : Nat) (Option.some Jvm.ClassFile.FieldType.int)) ∈ m_T := mt_5 144 rfl rfl
theorem w_1105 : (Jvm.Cond.methodLink "NeverLikeModel" (209 : Nat) ({ cls := "NeverLikeModel", name := "reads", desc := "()V" } : Jvm.MethodName)) ∈ m_T := mt_5 145 rfl rfl
theorem w_1107 : (Jvm.Cond.instanceMethod ({ cls := "NeverLikeModel", name := "reads", desc := "()V" } : Jvm.MethodName)) ∈ m_T := mt_5 147 rfl rfl
theorem w_1108 : (Jvm.Cond.code ({ cls := "NeverLikeModel", name := "reads", desc := "()V" } : Jvm.MethodName) prog_14_method_26_code (2 : Nat) (Option.none : Option Jvm.ClassFile.FieldType)) ∈ m_T := mt_5 148 rfl rfl
theorem w_1109 : (Jvm.Cond.methodLink "NeverLikeModel" (157 : Nat) ({ cls := "NeverLikeModel", name := "isAt", desc := "(II)Z" } : Jvm.MethodName)) ∈ m_T := mt_5 149 rfl rfl
theorem w_1111 : (Jvm.Cond.instanceMethod ({ cls := "NeverLikeModel", name := "isAt", desc := "(II)Z" } : Jvm.MethodName)) ∈ m_T := mt_5 151 rfl rfl
theorem w_1112 : (Jvm.Cond.code ({ cls := "NeverLikeModel", name := "isAt", desc := "(II)Z" } : Jvm.MethodName) prog_14_method_23_code (3 : Nat) (Option.some Jvm.ClassFile.FieldType.boolean)) ∈ m_T := mt_5 152 rfl rfl
theorem w_1113 : (Jvm.Cond.methodLink "NeverLikeModel" (166 : Nat) ({ cls := "NeverLikeModel", name := "isWord", desc := "([I)Z" } : Jvm.MethodName)) ∈ m_T := mt_5 153 rfl rfl
theorem w_1115 : (Jvm.Cond.instanceMethod ({ cls := "NeverLikeModel", name := "isWord", desc := "([I)Z" } : Jvm.MethodName)) ∈ m_T := mt_5 155 rfl rfl
theorem w_1116 : (Jvm.Cond.code ({ cls := "NeverLikeModel", name := "isWord", desc := "([I)Z" } : Jvm.MethodName) prog_14_method_25_code (3 : Nat) (Option.some Jvm.ClassFile.FieldType.boolean)) ∈ m_T := mt_5 156 rfl rfl
theorem w_1117 : (Jvm.Cond.methodLink "NeverLikeModel" (170 : Nat) ({ cls := "NeverLikeModel", name := "isSign", desc := "(I)Z" } : Jvm.MethodName)) ∈ m_T := mt_5 157 rfl rfl
theorem w_1118 : (Jvm.Cond.static ({ cls := "NeverLikeModel", name := "isSign", desc := "(I)Z" } : Jvm.MethodName)) ∈ m_T := mt_5 158 rfl rfl
theorem w_1119 : (Jvm.Cond.code ({ cls := "NeverLikeModel", name := "isSign", desc := "(I)Z" } : Jvm.MethodName) prog_14_method_24_code (1 : Nat) (Option.some Jvm.ClassFile.FieldType.boolean)) ∈ m_T := mt_5 159 rfl rfl
theorem w_1120 : (Jvm.Cond.methodLink "NeverLikeModel" (212 : Nat) ({ cls := "NeverLikeModel", name := "readsRow", desc := "()Z" } : Jvm.MethodName)) ∈ m_T := mt_5 160 rfl rfl
theorem w_1122 : (Jvm.Cond.instanceMethod ({ cls := "NeverLikeModel", name := "readsRow", desc := "()Z" } : Jvm.MethodName)) ∈ m_T := mt_5 162 rfl rfl
theorem w_1123 : (Jvm.Cond.code ({ cls := "NeverLikeModel", name := "readsRow", desc := "()Z" } : Jvm.MethodName) prog_14_method_36_code (4 : Nat) (Option.some Jvm.ClassFile.FieldType.boolean)) ∈ m_T := mt_5 163 rfl rfl
theorem w_1124 : (Jvm.Cond.methodLink "NeverLikeModel" (203 : Nat) ({ cls := "NeverLikeModel", name := "ahead", desc := "()I" } : Jvm.MethodName)) ∈ m_T := mt_5 164 rfl rfl
theorem w_1126 : (Jvm.Cond.instanceMethod ({ cls := "NeverLikeModel", name := "ahead", desc := "()I" } : Jvm.MethodName)) ∈ m_T := mt_5 166 rfl rfl
theorem w_1127 : (Jvm.Cond.code ({ cls := "NeverLikeModel", name := "ahead", desc := "()I" } : Jvm.MethodName) prog_14_method_33_code (2 : Nat) (Option.some Jvm.ClassFile.FieldType.int)) ∈ m_T := mt_5 167 rfl rfl
theorem w_1128 : (Jvm.Cond.methodLink "NeverLikeModel" (190 : Nat) ({ cls := "NeverLikeModel", name := "mayNot", desc := "()Z" } : Jvm.MethodName)) ∈ m_T := mt_5 168 rfl rfl
theorem w_1130 : (Jvm.Cond.instanceMethod ({ cls := "NeverLikeModel", name := "mayNot", desc := "()Z" } : Jvm.MethodName)) ∈ m_T := mt_5 170 rfl rfl
theorem w_1131 : (Jvm.Cond.code ({ cls := "NeverLikeModel", name := "mayNot", desc := "()Z" } : Jvm.MethodName) prog_14_method_32_code (2 : Nat) (Option.some Jvm.ClassFile.FieldType.boolean)) ∈ m_T := mt_5 171 rfl rfl
theorem w_1132 : (Jvm.Cond.methodLink "NeverLikeModel" (179 : Nat) ({ cls := "NeverLikeModel", name := "top", desc := "()I" } : Jvm.MethodName)) ∈ m_T := mt_5 172 rfl rfl
theorem w_1134 : (Jvm.Cond.instanceMethod ({ cls := "NeverLikeModel", name := "top", desc := "()I" } : Jvm.MethodName)) ∈ m_T := mt_5 174 rfl rfl
theorem w_1135 : (Jvm.Cond.code ({ cls := "NeverLikeModel", name := "top", desc := "()I" } : Jvm.MethodName) prog_14_method_27_code (1 : Nat) (Option.some Jvm.ClassFile.FieldType.int)) ∈ m_T := mt_5 175 rfl rfl
theorem w_1136 : (Jvm.Cond.methodLink "NeverLikeModel" (194 : Nat) ({ cls := "NeverLikeModel", name := "holds", desc := "(I)V" } : Jvm.MethodName)) ∈ m_T := mt_5 176 rfl rfl
theorem w_1138 : (Jvm.Cond.instanceMethod ({ cls := "NeverLikeModel", name := "holds", desc := "(I)V" } : Jvm.MethodName)) ∈ m_T := mt_5 178 rfl rfl
theorem w_1139 : (Jvm.Cond.code ({ cls := "NeverLikeModel", name := "holds", desc := "(I)V" } : Jvm.MethodName) prog_14_method_28_code (2 : Nat) (Option.none : Option Jvm.ClassFile.FieldType)) ∈ m_T := mt_5 179 rfl rfl
theorem w_1140 : (Jvm.Cond.methodLink "NeverLikeModel" (206 : Nat) ({ cls := "NeverLikeModel", name := "behind", desc := "()I" } : Jvm.MethodName)) ∈ m_T := mt_5 180 rfl rfl
theorem w_1142 : (Jvm.Cond.instanceMethod ({ cls := "NeverLikeModel", name := "behind", desc := "()I" } : Jvm.MethodName)) ∈ m_T := mt_5 182 rfl rfl
theorem w_1143 : (Jvm.Cond.code ({ cls := "NeverLikeModel", name := "behind", desc := "()I" } : Jvm.MethodName) prog_14_method_35_code (2 : Nat) (Option.some Jvm.ClassFile.FieldType.int)) ∈ m_T := mt_5 183 rfl rfl
theorem w_1144 : (Jvm.Cond.methodLink "NeverLikeModel" (197 : Nat) ({ cls := "NeverLikeModel", name := "letsFrom", desc := "(I)V" } : Jvm.MethodName)) ∈ m_T := mt_5 184 rfl rfl
theorem w_1146 : (Jvm.Cond.instanceMethod ({ cls := "NeverLikeModel", name := "letsFrom", desc := "(I)V" } : Jvm.MethodName)) ∈ m_T := mt_5 186 rfl rfl
theorem w_1147 : (Jvm.Cond.code ({ cls := "NeverLikeModel", name := "letsFrom", desc := "(I)V" } : Jvm.MethodName) prog_14_method_30_code (2 : Nat) (Option.none : Option Jvm.ClassFile.FieldType)) ∈ m_T := mt_5 187 rfl rfl
theorem w_1148 : (Jvm.Cond.methodLink "NeverLikeModel" (183 : Nat) ({ cls := "NeverLikeModel", name := "heightOf", desc := "(I)I" } : Jvm.MethodName)) ∈ m_T := mt_5 188 rfl rfl
theorem w_1149 : (Jvm.Cond.static ({ cls := "NeverLikeModel", name := "heightOf", desc := "(I)I" } : Jvm.MethodName)) ∈ m_T := mt_5 189 rfl rfl
theorem w_1150 : (Jvm.Cond.code ({ cls := "NeverLikeModel", name := "heightOf", desc := "(I)I" } : Jvm.MethodName) prog_14_method_31_code (1 : Nat) (Option.some Jvm.ClassFile.FieldType.int)) ∈ m_T := mt_5 190 rfl rfl
theorem w_1151 : (Jvm.Cond.methodLink "NeverLikeModel" (187 : Nat) ({ cls := "NeverLikeModel", name := "lets", desc := "()V" } : Jvm.MethodName)) ∈ m_T := mt_5 191 rfl rfl
theorem w_1153 : (Jvm.Cond.instanceMethod ({ cls := "NeverLikeModel", name := "lets", desc := "()V" } : Jvm.MethodName)) ∈ m_T := mt_5 193 rfl rfl
theorem w_1154 : (Jvm.Cond.code ({ cls := "NeverLikeModel", name := "lets", desc := "()V" } : Jvm.MethodName) prog_14_method_29_code (2 : Nat) (Option.none : Option Jvm.ClassFile.FieldType)) ∈ m_T := mt_5 194 rfl rfl
theorem w_1155 : (Jvm.Cond.methodLink "NeverLikeModel" (200 : Nat) ({ cls := "NeverLikeModel", name := "deedOf", desc := "(I)I" } : Jvm.MethodName)) ∈ m_T := mt_5 195 rfl rfl
theorem w_1156 : (Jvm.Cond.static ({ cls := "NeverLikeModel", name := "deedOf", desc := "(I)I" } : Jvm.MethodName)) ∈ m_T := mt_5 196 rfl rfl
theorem w_1157 : (Jvm.Cond.code ({ cls := "NeverLikeModel", name := "deedOf", desc := "(I)I" } : Jvm.MethodName) prog_14_method_34_code (1 : Nat) (Option.some Jvm.ClassFile.FieldType.int)) ∈ m_T := mt_5 197 rfl rfl
theorem w_1158 : (Jvm.Cond.methodLink "NeverLikeLaw" (52 : Nat) ({ cls := "NeverLikeModel", name := "force", desc := "(I)I" } : Jvm.MethodName)) ∈ m_T := mt_5 198 rfl rfl
theorem w_1159 : (Jvm.Cond.instanceMethod ({ cls := "NeverLikeModel", name := "force", desc := "(I)I" } : Jvm.MethodName)) ∈ m_T := mt_5 199 rfl rfl
theorem w_1160 : (Jvm.Cond.selects "NeverLikeModel" ({ cls := "NeverLikeModel", name := "force", desc := "(I)I" } : Jvm.MethodName) ({ cls := "NeverLikeModel", name := "force", desc := "(I)I" } : Jvm.MethodName)) ∈ m_T := mt_5 200 rfl rfl
theorem w_1161 : (Jvm.Cond.code ({ cls := "NeverLikeModel", name := "force", desc := "(I)I" } : Jvm.MethodName) prog_14_method_38_code (3 : Nat) (Option.some Jvm.ClassFile.FieldType.int)) ∈ m_T := mt_5 201 rfl rfl
theorem w_1162 : (Jvm.Cond.methodLink "NeverLikeLaw" (56 : Nat) ({ cls := "NeverLikeModel", name := "lawful", desc := "()I" } : Jvm.MethodName)) ∈ m_T := mt_5 202 rfl rfl
theorem w_1163 : (Jvm.Cond.instanceMethod ({ cls := "NeverLikeModel", name := "lawful", desc := "()I" } : Jvm.MethodName)) ∈ m_T := mt_5 203 rfl rfl
theorem w_1164 : (Jvm.Cond.selects "NeverLikeModel" ({ cls := "NeverLikeModel", name := "lawful", desc := "()I" } : Jvm.MethodName) ({ cls := "NeverLikeModel", name := "lawful", desc := "()I" } : Jvm.MethodName)) ∈ m_T := mt_5 204 rfl rfl
theorem w_1165 : (Jvm.Cond.code ({ cls := "NeverLikeModel", name := "lawful", desc := "()I" } : Jvm.MethodName) prog_14_method_51_code (1 : Nat) (Option.some Jvm.ClassFile.FieldType.int)) ∈ m_T := mt_5 205 rfl rfl
theorem w_1166 : (Jvm.Cond.methodLink "NeverLikeModel" (240 : Nat) ({ cls := "NeverLikeModel", name := "findUnits", desc := "()V" } : Jvm.MethodName)) ∈ m_T := mt_5 206 rfl rfl
theorem w_1168 : (Jvm.Cond.instanceMethod ({ cls := "NeverLikeModel", name := "findUnits", desc := "()V" } : Jvm.MethodName)) ∈ m_T := mt_5 208 rfl rfl
theorem w_1169 : (Jvm.Cond.code ({ cls := "NeverLikeModel", name := "findUnits", desc := "()V" } : Jvm.MethodName) prog_14_method_46_code (2 : Nat) (Option.none : Option Jvm.ClassFile.FieldType)) ∈ m_T := mt_5 209 rfl rfl
theorem w_1170 : (Jvm.Cond.methodLink "NeverLikeModel" (243 : Nat) ({ cls := "NeverLikeModel", name := "townNow", desc := "()I" } : Jvm.MethodName)) ∈ m_T := mt_5 210 rfl rfl
theorem w_1172 : (Jvm.Cond.instanceMethod ({ cls := "NeverLikeModel", name := "townNow", desc := "()I" } : Jvm.MethodName)) ∈ m_T := mt_5 212 rfl rfl
theorem w_1173 : (Jvm.Cond.code ({ cls := "NeverLikeModel", name := "townNow", desc := "()I" } : Jvm.MethodName) prog_14_method_7_code (3 : Nat) (Option.some Jvm.ClassFile.FieldType.int)) ∈ m_T := mt_5 213 rfl rfl
theorem w_1174 : (Jvm.Cond.methodLink "NeverLikeModel" (246 : Nat) ({ cls := "NeverLikeModel", name := "isLawful", desc := "(I)Z" } : Jvm.MethodName)) ∈ m_T := mt_5 214 rfl rfl
theorem w_1176 : (Jvm.Cond.instanceMethod ({ cls := "NeverLikeModel", name := "isLawful", desc := "(I)Z" } : Jvm.MethodName)) ∈ m_T := mt_5 216 rfl rfl
theorem w_1177 : (Jvm.Cond.code ({ cls := "NeverLikeModel", name := "isLawful", desc := "(I)Z" } : Jvm.MethodName) prog_14_method_50_code (4 : Nat) (Option.some Jvm.ClassFile.FieldType.boolean)) ∈ m_T := mt_5 217 rfl rfl
theorem w_1178 : (Jvm.Cond.methodLink "NeverLikeModel" (237 : Nat) ({ cls := "NeverLikeModel", name := "colourIn", desc := "(II)I" } : Jvm.MethodName)) ∈ m_T := mt_5 218 rfl rfl
theorem w_1180 : (Jvm.Cond.instanceMethod ({ cls := "NeverLikeModel", name := "colourIn", desc := "(II)I" } : Jvm.MethodName)) ∈ m_T := mt_5 220 rfl rfl
theorem w_1181 : (Jvm.Cond.code ({ cls := "NeverLikeModel", name := "colourIn", desc := "(II)I" } : Jvm.MethodName) prog_14_method_47_code (3 : Nat) (Option.some Jvm.ClassFile.FieldType.int)) ∈ m_T := mt_5 221 rfl rfl
theorem w_1182 : (Jvm.Cond.methodLink "NeverLikeLaw" (60 : Nat) ({ cls := "NeverLikeModel", name := "step", desc := "(II)I" } : Jvm.MethodName)) ∈ m_T := mt_5 222 rfl rfl
theorem w_1183 : (Jvm.Cond.instanceMethod ({ cls := "NeverLikeModel", name := "step", desc := "(II)I" } : Jvm.MethodName)) ∈ m_T := mt_5 223 rfl rfl
theorem w_1184 : (Jvm.Cond.selects "NeverLikeModel" ({ cls := "NeverLikeModel", name := "step", desc := "(II)I" } : Jvm.MethodName) ({ cls := "NeverLikeModel", name := "step", desc := "(II)I" } : Jvm.MethodName)) ∈ m_T := mt_5 224 rfl rfl
theorem w_1185 : (Jvm.Cond.code ({ cls := "NeverLikeModel", name := "step", desc := "(II)I" } : Jvm.MethodName) prog_14_method_54_code (3 : Nat) (Option.some Jvm.ClassFile.FieldType.int)) ∈ m_T := mt_5 225 rfl rfl
theorem w_1186 : (Jvm.Cond.methodLink "NeverLikeModel" (252 : Nat) ({ cls := "NeverLikeModel", name := "isStep", desc := "(II)Z" } : Jvm.MethodName)) ∈ m_T := mt_5 226 rfl rfl
theorem w_1188 : (Jvm.Cond.instanceMethod ({ cls := "NeverLikeModel", name := "isStep", desc := "(II)Z" } : Jvm.MethodName)) ∈ m_T := mt_5 228 rfl rfl
theorem w_1189 : (Jvm.Cond.code ({ cls := "NeverLikeModel", name := "isStep", desc := "(II)Z" } : Jvm.MethodName) prog_14_method_53_code (3 : Nat) (Option.some Jvm.ClassFile.FieldType.boolean)) ∈ m_T := mt_5 229 rfl rfl
theorem w_1190 : (Jvm.Cond.methodLink "NeverLikeModel" (255 : Nat) ({ cls := "NeverLikeModel", name := "finds", desc := "()V" } : Jvm.MethodName)) ∈ m_T := mt_5 230 rfl rfl
theorem w_1192 : (Jvm.Cond.instanceMethod ({ cls := "NeverLikeModel", name := "finds", desc := "()V" } : Jvm.MethodName)) ∈ m_T := mt_5 232 rfl rfl
theorem w_1193 : (Jvm.Cond.code ({ cls := "NeverLikeModel", name := "finds", desc := "()V" } : Jvm.MethodName) prog_14_method_52_code (1 : Nat) (Option.none : Option Jvm.ClassFile.FieldType)) ∈ m_T := mt_5 233 rfl rfl
theorem w_1194 : (Jvm.Cond.methodLink "NeverLikeModel" (249 : Nat) ({ cls := "NeverLikeModel", name := "findSteps", desc := "()V" } : Jvm.MethodName)) ∈ m_T := mt_5 234 rfl rfl
theorem w_1196 : (Jvm.Cond.instanceMethod ({ cls := "NeverLikeModel", name := "findSteps", desc := "()V" } : Jvm.MethodName)) ∈ m_T := mt_5 236 rfl rfl
theorem w_1197 : (Jvm.Cond.code ({ cls := "NeverLikeModel", name := "findSteps", desc := "()V" } : Jvm.MethodName) prog_14_method_45_code (4 : Nat) (Option.none : Option Jvm.ClassFile.FieldType)) ∈ m_T := mt_5 237 rfl rfl
theorem w_1198 : (Jvm.Cond.methodLink "NeverLikeModel" (234 : Nat) ({ cls := "NeverLikeModel", name := "stepCost", desc := "(III)I" } : Jvm.MethodName)) ∈ m_T := mt_5 238 rfl rfl
theorem w_1200 : (Jvm.Cond.instanceMethod ({ cls := "NeverLikeModel", name := "stepCost", desc := "(III)I" } : Jvm.MethodName)) ∈ m_T := mt_6 0 rfl rfl
theorem w_1201 : (Jvm.Cond.code ({ cls := "NeverLikeModel", name := "stepCost", desc := "(III)I" } : Jvm.MethodName) prog_14_method_44_code (7 : Nat) (Option.some Jvm.ClassFile.FieldType.int)) ∈ m_T := mt_6 1 rfl rfl
theorem w_1202 : (Jvm.Cond.methodLink "NeverLikeModel" (228 : Nat) ({ cls := "NeverLikeModel", name := "says", desc := "(IIII)I" } : Jvm.MethodName)) ∈ m_T := mt_6 2 rfl rfl
theorem w_1204 : (Jvm.Cond.instanceMethod ({ cls := "NeverLikeModel", name := "says", desc := "(IIII)I" } : Jvm.MethodName)) ∈ m_T := mt_6 4 rfl rfl
theorem w_1205 : (Jvm.Cond.code ({ cls := "NeverLikeModel", name := "says", desc := "(IIII)I" } : Jvm.MethodName) prog_14_method_42_code (9 : Nat) (Option.some Jvm.ClassFile.FieldType.int)) ∈ m_T := mt_6 5 rfl rfl
theorem w_1206 : (Jvm.Cond.methodLink "NeverLikeModel" (221 : Nat) ({ cls := "NeverLikeModel", name := "named", desc := "(IIII)I" } : Jvm.MethodName)) ∈ m_T := mt_6 6 rfl rfl
theorem w_1208 : (Jvm.Cond.instanceMethod ({ cls := "NeverLikeModel", name := "named", desc := "(IIII)I" } : Jvm.MethodName)) ∈ m_T := mt_6 8 rfl rfl
theorem w_1209 : (Jvm.Cond.code ({ cls := "NeverLikeModel", name := "named", desc := "(IIII)I" } : Jvm.MethodName) prog_14_method_40_code (5 : Nat) (Option.some Jvm.ClassFile.FieldType.int)) ∈ m_T := mt_6 9 rfl rfl
theorem w_1210 : (Jvm.Cond.methodLink "NeverLikeModel" (218 : Nat) ({ cls := "NeverLikeModel", name := "bits", desc := "(I)I" } : Jvm.MethodName)) ∈ m_T := mt_6 10 rfl rfl
theorem w_1211 : (Jvm.Cond.static ({ cls := "NeverLikeModel", name := "bits", desc := "(I)I" } : Jvm.MethodName)) ∈ m_T := mt_6 11 rfl rfl
theorem w_1212 : (Jvm.Cond.code ({ cls := "NeverLikeModel", name := "bits", desc := "(I)I" } : Jvm.MethodName) prog_14_method_39_code (3 : Nat) (Option.some Jvm.ClassFile.FieldType.int)) ∈ m_T := mt_6 12 rfl rfl
theorem w_1213 : (Jvm.Cond.methodLink "NeverLikeModel" (224 : Nat) ({ cls := "NeverLikeModel", name := "done", desc := "(III)I" } : Jvm.MethodName)) ∈ m_T := mt_6 13 rfl rfl
theorem w_1214 : (Jvm.Cond.static ({ cls := "NeverLikeModel", name := "done", desc := "(III)I" } : Jvm.MethodName)) ∈ m_T := mt_6 14 rfl rfl
theorem w_1215 : (Jvm.Cond.code ({ cls := "NeverLikeModel", name := "done", desc := "(III)I" } : Jvm.MethodName) prog_14_method_41_code (3 : Nat) (Option.some Jvm.ClassFile.FieldType.int)) ∈ m_T := mt_6 15 rfl rfl
theorem w_1216 : (Jvm.Cond.methodLink "NeverLikeModel" (231 : Nat) ({ cls := "NeverLikeModel", name := "bounded", desc := "(II)I" } : Jvm.MethodName)) ∈ m_T := mt_6 16 rfl rfl
theorem w_1217 : (Jvm.Cond.static ({ cls := "NeverLikeModel", name := "bounded", desc := "(II)I" } : Jvm.MethodName)) ∈ m_T := mt_6 17 rfl rfl
theorem w_1218 : (Jvm.Cond.code ({ cls := "NeverLikeModel", name := "bounded", desc := "(II)I" } : Jvm.MethodName) prog_14_method_43_code (2 : Nat) (Option.some Jvm.ClassFile.FieldType.int)) ∈ m_T := mt_6 18 rfl rfl
theorem w_1219 : (Jvm.Cond.methodLink "NeverLikeModel" (258 : Nat) ({ cls := "NeverLikeModel", name := "costIn", desc := "(III)I" } : Jvm.MethodName)) ∈ m_T := mt_6 19 rfl rfl
theorem w_1221 : (Jvm.Cond.instanceMethod ({ cls := "NeverLikeModel", name := "costIn", desc := "(III)I" } : Jvm.MethodName)) ∈ m_T := mt_6 21 rfl rfl
theorem w_1222 : (Jvm.Cond.code ({ cls := "NeverLikeModel", name := "costIn", desc := "(III)I" } : Jvm.MethodName) prog_14_method_48_code (7 : Nat) (Option.some Jvm.ClassFile.FieldType.int)) ∈ m_T := mt_6 22 rfl rfl
theorem w_1223 : (Jvm.Cond.methodLink "NeverLikeLaw" (64 : Nat) ({ cls := "NeverLikeModel", name := "paint", desc := "(II)I" } : Jvm.MethodName)) ∈ m_T := mt_6 23 rfl rfl
theorem w_1224 : (Jvm.Cond.instanceMethod ({ cls := "NeverLikeModel", name := "paint", desc := "(II)I" } : Jvm.MethodName)) ∈ m_T := mt_6 24 rfl rfl
theorem w_1225 : (Jvm.Cond.selects "NeverLikeModel" ({ cls := "NeverLikeModel", name := "paint", desc := "(II)I" } : Jvm.MethodName) ({ cls := "NeverLikeModel", name := "paint", desc := "(II)I" } : Jvm.MethodName)) ∈ m_T := mt_6 25 rfl rfl
theorem w_1226 : (Jvm.Cond.code ({ cls := "NeverLikeModel", name := "paint", desc := "(II)I" } : Jvm.MethodName) prog_14_method_56_code (3 : Nat) (Option.some Jvm.ClassFile.FieldType.int)) ∈ m_T := mt_6 26 rfl rfl
theorem w_1227 : (Jvm.Cond.methodLink "NeverLikeModel" (261 : Nat) ({ cls := "NeverLikeModel", name := "paintsOne", desc := "(II)I" } : Jvm.MethodName)) ∈ m_T := mt_6 27 rfl rfl
theorem w_1229 : (Jvm.Cond.instanceMethod ({ cls := "NeverLikeModel", name := "paintsOne", desc := "(II)I" } : Jvm.MethodName)) ∈ m_T := mt_6 29 rfl rfl
theorem w_1230 : (Jvm.Cond.code ({ cls := "NeverLikeModel", name := "paintsOne", desc := "(II)I" } : Jvm.MethodName) prog_14_method_55_code (4 : Nat) (Option.some Jvm.ClassFile.FieldType.int)) ∈ m_T := mt_6 30 rfl rfl
theorem w_1231 : (Jvm.Cond.methodLink "NeverLikeLaw" (68 : Nat) ({ cls := "NeverLikeModel", name := "come", desc := "(I)I" } : Jvm.MethodName)) ∈ m_T := mt_6 31 rfl rfl
theorem w_1232 : (Jvm.Cond.instanceMethod ({ cls := "NeverLikeModel", name := "come", desc := "(I)I" } : Jvm.MethodName)) ∈ m_T := mt_6 32 rfl rfl
theorem w_1233 : (Jvm.Cond.selects "NeverLikeModel" ({ cls := "NeverLikeModel", name := "come", desc := "(I)I" } : Jvm.MethodName) ({ cls := "NeverLikeModel", name := "come", desc := "(I)I" } : Jvm.MethodName)) ∈ m_T := mt_6 33 rfl rfl
theorem w_1234 : (Jvm.Cond.code ({ cls := "NeverLikeModel", name := "come", desc := "(I)I" } : Jvm.MethodName) prog_14_method_62_code (3 : Nat) (Option.some Jvm.ClassFile.FieldType.int)) ∈ m_T := mt_6 34 rfl rfl
theorem w_1235 : (Jvm.Cond.methodLink "NeverLikeModel" (273 : Nat) ({ cls := "NeverLikeModel", name := "findNow", desc := "()I" } : Jvm.MethodName)) ∈ m_T := mt_6 35 rfl rfl
theorem w_1237 : (Jvm.Cond.instanceMethod ({ cls := "NeverLikeModel", name := "findNow", desc := "()I" } : Jvm.MethodName)) ∈ m_T := mt_6 37 rfl rfl
theorem w_1238 : (Jvm.Cond.code ({ cls := "NeverLikeModel", name := "findNow", desc := "()I" } : Jvm.MethodName) prog_14_method_58_code (1 : Nat) (Option.some Jvm.ClassFile.FieldType.int)) ∈ m_T := mt_6 38 rfl rfl
theorem w_1239 : (Jvm.Cond.methodLink "NeverLikeModel" (267 : Nat) ({ cls := "NeverLikeModel", name := "findFrom", desc := "(I)I" } : Jvm.MethodName)) ∈ m_T := mt_6 39 rfl rfl
theorem w_1241 : (Jvm.Cond.instanceMethod ({ cls := "NeverLikeModel", name := "findFrom", desc := "(I)I" } : Jvm.MethodName)) ∈ m_T := mt_6 41 rfl rfl
theorem w_1242 : (Jvm.Cond.code ({ cls := "NeverLikeModel", name := "findFrom", desc := "(I)I" } : Jvm.MethodName) prog_14_method_57_code (7 : Nat) (Option.some Jvm.ClassFile.FieldType.int)) ∈ m_T := mt_6 42 rfl rfl
theorem w_1243 : (Jvm.Cond.methodLink "NeverLikeModel" (264 : Nat) ({ cls := "NeverLikeModel", name := "behindStep", desc := "(III)I" } : Jvm.MethodName)) ∈ m_T := mt_6 43 rfl rfl
theorem w_1245 : (Jvm.Cond.instanceMethod ({ cls := "NeverLikeModel", name := "behindStep", desc := "(III)I" } : Jvm.MethodName)) ∈ m_T := mt_6 45 rfl rfl
theorem w_1246 : (Jvm.Cond.code ({ cls := "NeverLikeModel", name := "behindStep", desc := "(III)I" } : Jvm.MethodName) prog_14_method_49_code (4 : Nat) (Option.some Jvm.ClassFile.FieldType.int)) ∈ m_T := mt_6 46 rfl rfl
theorem w_1247 : (Jvm.Cond.methodLink "NeverLikeModel" (276 : Nat) ({ cls := "NeverLikeModel", name := "frozen", desc := "(I)I" } : Jvm.MethodName)) ∈ m_T := mt_6 47 rfl rfl
theorem w_1249 : (Jvm.Cond.instanceMethod ({ cls := "NeverLikeModel", name := "frozen", desc := "(I)I" } : Jvm.MethodName)) ∈ m_T := mt_6 49 rfl rfl
theorem w_1250 : (Jvm.Cond.code ({ cls := "NeverLikeModel", name := "frozen", desc := "(I)I" } : Jvm.MethodName) prog_14_method_59_code (6 : Nat) (Option.some Jvm.ClassFile.FieldType.int)) ∈ m_T := mt_6 50 rfl rfl
theorem w_1251 : (Jvm.Cond.methodLink "NeverLikeModel" (279 : Nat) ({ cls := "NeverLikeModel", name := "parts", desc := "()I" } : Jvm.MethodName)) ∈ m_T := mt_6 51 rfl rfl
theorem w_1253 : (Jvm.Cond.instanceMethod ({ cls := "NeverLikeModel", name := "parts", desc := "()I" } : Jvm.MethodName)) ∈ m_T := mt_6 53 rfl rfl
theorem w_1254 : (Jvm.Cond.code ({ cls := "NeverLikeModel", name := "parts", desc := "()I" } : Jvm.MethodName) prog_14_method_61_code (9 : Nat) (Option.some Jvm.ClassFile.FieldType.int)) ∈ m_T := mt_6 54 rfl rfl
theorem w_1255 : (Jvm.Cond.methodLink "NeverLikeModel" (270 : Nat) ({ cls := "NeverLikeModel", name := "isBothWays", desc := "(III)Z" } : Jvm.MethodName)) ∈ m_T := mt_6 55 rfl rfl
theorem w_1257 : (Jvm.Cond.instanceMethod ({ cls := "NeverLikeModel", name := "isBothWays", desc := "(III)Z" } : Jvm.MethodName)) ∈ m_T := mt_6 57 rfl rfl
theorem w_1258 : (Jvm.Cond.code ({ cls := "NeverLikeModel", name := "isBothWays", desc := "(III)Z" } : Jvm.MethodName) prog_14_method_60_code (4 : Nat) (Option.some Jvm.ClassFile.FieldType.boolean)) ∈ m_T := mt_6 58 rfl rfl
theorem w_1259 : (Jvm.Cond.methodLink "NeverLikeLaw" (72 : Nat) ({ cls := "NeverLikeModel", name := "shortest", desc := "(I)I" } : Jvm.MethodName)) ∈ m_T := mt_6 59 rfl rfl
theorem w_1260 : (Jvm.Cond.instanceMethod ({ cls := "NeverLikeModel", name := "shortest", desc := "(I)I" } : Jvm.MethodName)) ∈ m_T := mt_6 60 rfl rfl
theorem w_1261 : (Jvm.Cond.selects "NeverLikeModel" ({ cls := "NeverLikeModel", name := "shortest", desc := "(I)I" } : Jvm.MethodName) ({ cls := "NeverLikeModel", name := "shortest", desc := "(I)I" } : Jvm.MethodName)) ∈ m_T := mt_6 61 rfl rfl
theorem w_1262 : (Jvm.Cond.code ({ cls := "NeverLikeModel", name := "shortest", desc := "(I)I" } : Jvm.MethodName) prog_14_method_63_code (2 : Nat) (Option.some Jvm.ClassFile.FieldType.int)) ∈ m_T := mt_6 62 rfl rfl
theorem w_1263 : (Jvm.Cond.methodLink "NeverLikeModel" (282 : Nat) ({ cls := "NeverLikeModel", name := "isTown", desc := "(I)Z" } : Jvm.MethodName)) ∈ m_T := mt_6 63 rfl rfl
theorem w_1265 : (Jvm.Cond.instanceMethod ({ cls := "NeverLikeModel", name := "isTown", desc := "(I)Z" } : Jvm.MethodName)) ∈ m_T := mt_6 65 rfl rfl
theorem w_1266 : (Jvm.Cond.code ({ cls := "NeverLikeModel", name := "isTown", desc := "(I)Z" } : Jvm.MethodName) prog_14_method_8_code (2 : Nat) (Option.some Jvm.ClassFile.FieldType.boolean)) ∈ m_T := mt_6 66 rfl rfl
theorem w_1267 : (Jvm.Cond.methodLink "NeverLikeLaw" (76 : Nat) ({ cls := "NeverLikeModel", name := "first", desc := "(II)I" } : Jvm.MethodName)) ∈ m_T := mt_6 67 rfl rfl
theorem w_1268 : (Jvm.Cond.instanceMethod ({ cls := "NeverLikeModel", name := "first", desc := "(II)I" } : Jvm.MethodName)) ∈ m_T := mt_6 68 rfl rfl
theorem w_1269 : (Jvm.Cond.selects "NeverLikeModel" ({ cls := "NeverLikeModel", name := "first", desc := "(II)I" } : Jvm.MethodName) ({ cls := "NeverLikeModel", name := "first", desc := "(II)I" } : Jvm.MethodName)) ∈ m_T := mt_6 69 rfl rfl
theorem w_1270 : (Jvm.Cond.code ({ cls := "NeverLikeModel", name := "first", desc := "(II)I" } : Jvm.MethodName) prog_14_method_65_code (7 : Nat) (Option.some Jvm.ClassFile.FieldType.int)) ∈ m_T := mt_6 70 rfl rfl
theorem w_1271 : (Jvm.Cond.methodLink "NeverLikeModel" (285 : Nat) ({ cls := "NeverLikeModel", name := "findTo", desc := "(I)V" } : Jvm.MethodName)) ∈ m_T := mt_6 71 rfl rfl
theorem w_1273 : (Jvm.Cond.instanceMethod ({ cls := "NeverLikeModel", name := "findTo", desc := "(I)V" } : Jvm.MethodName)) ∈ m_T := mt_6 73 rfl rfl
theorem w_1274 : (Jvm.Cond.code ({ cls := "NeverLikeModel", name := "findTo", desc := "(I)V" } : Jvm.MethodName) prog_14_method_64_code (9 : Nat) (Option.none : Option Jvm.ClassFile.FieldType)) ∈ m_T := mt_6 74 rfl rfl
theorem w_1275 : (Jvm.Cond.methodLink "NeverLikeLaw" (80 : Nat) ({ cls := "NeverLikeModel", name := "cheapest", desc := "(I)I" } : Jvm.MethodName)) ∈ m_T := mt_6 75 rfl rfl
theorem w_1276 : (Jvm.Cond.instanceMethod ({ cls := "NeverLikeModel", name := "cheapest", desc := "(I)I" } : Jvm.MethodName)) ∈ m_T := mt_6 76 rfl rfl
theorem w_1277 : (Jvm.Cond.selects "NeverLikeModel" ({ cls := "NeverLikeModel", name := "cheapest", desc := "(I)I" } : Jvm.MethodName) ({ cls := "NeverLikeModel", name := "cheapest", desc := "(I)I" } : Jvm.MethodName)) ∈ m_T := mt_6 77 rfl rfl
theorem w_1278 : (Jvm.Cond.code ({ cls := "NeverLikeModel", name := "cheapest", desc := "(I)I" } : Jvm.MethodName) prog_14_method_67_code (2 : Nat) (Option.some Jvm.ClassFile.FieldType.int)) ∈ m_T := mt_6 78 rfl rfl
theorem w_1279 : (Jvm.Cond.methodLink "NeverLikeModel" (289 : Nat) ({ cls := "NeverLikeModel", name := "findCosts", desc := "()V" } : Jvm.MethodName)) ∈ m_T := mt_6 79 rfl rfl
theorem w_1281 : (Jvm.Cond.instanceMethod ({ cls := "NeverLikeModel", name := "findCosts", desc := "()V" } : Jvm.MethodName)) ∈ m_T := mt_6 81 rfl rfl
theorem w_1282 : (Jvm.Cond.code ({ cls := "NeverLikeModel", name := "findCosts", desc := "()V" } : Jvm.MethodName) prog_14_method_66_code (8 : Nat) (Option.none : Option Jvm.ClassFile.FieldType)) ∈ m_T := mt_6 82 rfl rfl
theorem w_1283 : (Jvm.Cond.constant "NeverLikeModel" (288 : Nat) (1000000000 : Int32)) ∈ m_T := mt_6 83 rfl rfl
theorem w_1284 : (Jvm.Cond.methodLink "NeverLikeLaw" (84 : Nat) ({ cls := "NeverLikeModel", name := "wishes", desc := "(I)I" } : Jvm.MethodName)) ∈ m_T := mt_6 84 rfl rfl
theorem w_1285 : (Jvm.Cond.instanceMethod ({ cls := "NeverLikeModel", name := "wishes", desc := "(I)I" } : Jvm.MethodName)) ∈ m_T := mt_6 85 rfl rfl
theorem w_1286 : (Jvm.Cond.selects "NeverLikeModel" ({ cls := "NeverLikeModel", name := "wishes", desc := "(I)I" } : Jvm.MethodName) ({ cls := "NeverLikeModel", name := "wishes", desc := "(I)I" } : Jvm.MethodName)) ∈ m_T := mt_6 86 rfl rfl
theorem w_1287 : (Jvm.Cond.code ({ cls := "NeverLikeModel", name := "wishes", desc := "(I)I" } : Jvm.MethodName) prog_14_method_69_code (5 : Nat) (Option.some Jvm.ClassFile.FieldType.int)) ∈ m_T := mt_6 87 rfl rfl
theorem w_1288 : (Jvm.Cond.methodLink "NeverLikeModel" (292 : Nat) ({ cls := "NeverLikeModel", name := "wished", desc := "(I)I" } : Jvm.MethodName)) ∈ m_T := mt_6 88 rfl rfl
theorem w_1290 : (Jvm.Cond.instanceMethod ({ cls := "NeverLikeModel", name := "wished", desc := "(I)I" } : Jvm.MethodName)) ∈ m_T := mt_6 90 rfl rfl
theorem w_1291 : (Jvm.Cond.code ({ cls := "NeverLikeModel", name := "wished", desc := "(I)I" } : Jvm.MethodName) prog_14_method_68_code (4 : Nat) (Option.some Jvm.ClassFile.FieldType.int)) ∈ m_T := mt_6 91 rfl rfl
theorem w_1292 : (Jvm.Cond.methodLink "NeverLikeLaw" (88 : Nat) ({ cls := "NeverLikeModel", name := "night", desc := "(II)I" } : Jvm.MethodName)) ∈ m_T := mt_6 92 rfl rfl
theorem w_1293 : (Jvm.Cond.instanceMethod ({ cls := "NeverLikeModel", name := "night", desc := "(II)I" } : Jvm.MethodName)) ∈ m_T := mt_6 93 rfl rfl
theorem w_1294 : (Jvm.Cond.selects "NeverLikeModel" ({ cls := "NeverLikeModel", name := "night", desc := "(II)I" } : Jvm.MethodName) ({ cls := "NeverLikeModel", name := "night", desc := "(II)I" } : Jvm.MethodName)) ∈ m_T := mt_6 94 rfl rfl
theorem w_1295 : (Jvm.Cond.code ({ cls := "NeverLikeModel", name := "night", desc := "(II)I" } : Jvm.MethodName) prog_14_method_70_code (5 : Nat) (Option.some Jvm.ClassFile.FieldType.int)) ∈ m_T := mt_6 95 rfl rfl
theorem w_1296 : (Jvm.Cond.methodLink "NeverLikeLaw" (92 : Nat) ({ cls := "NeverLikeModel", name := "gap", desc := "(I)I" } : Jvm.MethodName)) ∈ m_T := mt_6 96 rfl rfl
theorem w_1297 : (Jvm.Cond.instanceMethod ({ cls := "NeverLikeModel", name := "gap", desc := "(I)I" } : Jvm.MethodName)) ∈ m_T := mt_6 97 rfl rfl
theorem w_1298 : (Jvm.Cond.selects "NeverLikeModel" ({ cls := "NeverLikeModel", name := "gap", desc := "(I)I" } : Jvm.MethodName) ({ cls := "NeverLikeModel", name := "gap", desc := "(I)I" } : Jvm.MethodName)) ∈ m_T := mt_6 98 rfl rfl
theorem w_1299 : (Jvm.Cond.code ({ cls := "NeverLikeModel", name := "gap", desc := "(I)I" } : Jvm.MethodName) prog_14_method_71_code (4 : Nat) (Option.some Jvm.ClassFile.FieldType.int)) ∈ m_T := mt_6 99 rfl rfl
theorem w_1300 : (Jvm.Cond.methodLink "NeverLikeLaw" (96 : Nat) ({ cls := "NeverLikeModel", name := "turned", desc := "()I" } : Jvm.MethodName)) ∈ m_T := mt_6 100 rfl rfl
theorem w_1301 : (Jvm.Cond.instanceMethod ({ cls := "NeverLikeModel", name := "turned", desc := "()I" } : Jvm.MethodName)) ∈ m_T := mt_6 101 rfl rfl
theorem w_1302 : (Jvm.Cond.selects "NeverLikeModel" ({ cls := "NeverLikeModel", name := "turned", desc := "()I" } : Jvm.MethodName) ({ cls := "NeverLikeModel", name := "turned", desc := "()I" } : Jvm.MethodName)) ∈ m_T := mt_6 102 rfl rfl
theorem w_1303 : (Jvm.Cond.code ({ cls := "NeverLikeModel", name := "turned", desc := "()I" } : Jvm.MethodName) prog_14_method_72_code (3 : Nat) (Option.some Jvm.ClassFile.FieldType.int)) ∈ m_T := mt_6 103 rfl rfl
theorem w_1304 : (Jvm.Cond.methodLink "NeverLikeLaw" (100 : Nat) ({ cls := "NeverLikeModel", name := "touched", desc := "(I)I" } : Jvm.MethodName)) ∈ m_T := mt_6 104 rfl rfl
theorem w_1305 : (Jvm.Cond.instanceMethod ({ cls := "NeverLikeModel", name := "touched", desc := "(I)I" } : Jvm.MethodName)) ∈ m_T := mt_6 105 rfl rfl
theorem w_1306 : (Jvm.Cond.selects "NeverLikeModel" ({ cls := "NeverLikeModel", name := "touched", desc := "(I)I" } : Jvm.MethodName) ({ cls := "NeverLikeModel", name := "touched", desc := "(I)I" } : Jvm.MethodName)) ∈ m_T := mt_6 106 rfl rfl
theorem w_1307 : (Jvm.Cond.code ({ cls := "NeverLikeModel", name := "touched", desc := "(I)I" } : Jvm.MethodName) prog_14_method_73_code (4 : Nat) (Option.some Jvm.ClassFile.FieldType.int)) ∈ m_T := mt_6 107 rfl rfl
theorem w_1308 : (Jvm.Cond.methodLink "NeverLikeLaw" (105 : Nat) ({ cls := "NeverLikeModel", name := "worth", desc := "(I)J" } : Jvm.MethodName)) ∈ m_T := mt_6 108 rfl rfl
theorem w_1309 : (Jvm.Cond.instanceMethod ({ cls := "NeverLikeModel", name := "worth", desc := "(I)J" } : Jvm.MethodName)) ∈ m_T := mt_6 109 rfl rfl
theorem w_1310 : (Jvm.Cond.selects "NeverLikeModel" ({ cls := "NeverLikeModel", name := "worth", desc := "(I)J" } : Jvm.MethodName) ({ cls := "NeverLikeModel", name := "worth", desc := "(I)J" } : Jvm.MethodName)) ∈ m_T := mt_6 110 rfl rfl
theorem w_1311 : (Jvm.Cond.code ({ cls := "NeverLikeModel", name := "worth", desc := "(I)J" } : Jvm.MethodName) prog_14_method_75_code (6 : Nat) (Option.some Jvm.ClassFile.FieldType.long)) ∈ m_T := mt_6 111 rfl rfl
theorem w_1312 : (Jvm.Cond.constantLong "NeverLikeModel" (295 : Nat) (-4611686018427387904 : Int64)) ∈ m_T := mt_6 112 rfl rfl
theorem w_1313 : (Jvm.Cond.methodLink "NeverLikeModel" (297 : Nat) ({ cls := "NeverLikeModel", name := "joyOf", desc := "(I)I" } : Jvm.MethodName)) ∈ m_T := mt_6 113 rfl rfl
theorem w_1315 : (Jvm.Cond.instanceMethod ({ cls := "NeverLikeModel", name := "joyOf", desc := "(I)I" } : Jvm.MethodName)) ∈ m_T := mt_6 115 rfl rfl
theorem w_1316 : (Jvm.Cond.code ({ cls := "NeverLikeModel", name := "joyOf", desc := "(I)I" } : Jvm.MethodName) prog_14_method_74_code (4 : Nat) (Option.some Jvm.ClassFile.FieldType.int)) ∈ m_T := mt_6 116 rfl rfl
theorem w_1317 : (Jvm.Cond.methodLink "NeverLikeLaw" (109 : Nat) ({ cls := "NeverLikeModel", name := "judge", desc := "(II)I" } : Jvm.MethodName)) ∈ m_T := mt_6 117 rfl rfl
theorem w_1318 : (Jvm.Cond.instanceMethod ({ cls := "NeverLikeModel", name := "judge", desc := "(II)I" } : Jvm.MethodName)) ∈ m_T := mt_6 118 rfl rfl
theorem w_1319 : (Jvm.Cond.selects "NeverLikeModel" ({ cls := "NeverLikeModel", name := "judge", desc := "(II)I" } : Jvm.MethodName) ({ cls := "NeverLikeModel", name := "judge", desc := "(II)I" } : Jvm.MethodName)) ∈ m_T := mt_6 119 rfl rfl
theorem w_1320 : (Jvm.Cond.code ({ cls := "NeverLikeModel", name := "judge", desc := "(II)I" } : Jvm.MethodName) prog_14_method_76_code (9 : Nat) (Option.some Jvm.ClassFile.FieldType.int)) ∈ m_T := mt_6 120 rfl rfl
theorem w_1321 : (Jvm.Cond.methodLink "NeverLikeModel" (300 : Nat) ({ cls := "NeverLikeModel", name := "isSheet", desc := "(I)Z" } : Jvm.MethodName)) ∈ m_T := mt_6 121 rfl rfl
theorem w_1322 : (Jvm.Cond.static ({ cls := "NeverLikeModel", name := "isSheet", desc := "(I)Z" } : Jvm.MethodName)) ∈ m_T := mt_6 122 rfl rfl
theorem w_1323 : (Jvm.Cond.code ({ cls := "NeverLikeModel", name := "isSheet", desc := "(I)Z" } : Jvm.MethodName) prog_14_method_81_code (1 : Nat) (Option.some Jvm.ClassFile.FieldType.boolean)) ∈ m_T := mt_6 123 rfl rfl
theorem w_1324 : (Jvm.Cond.methodLink "NeverLikeLaw" (113 : Nat) ({ cls := "NeverLikeModel", name := "drawn", desc := "(II)I" } : Jvm.MethodName)) ∈ m_T := mt_6 124 rfl rfl
theorem w_1325 : (Jvm.Cond.instanceMethod ({ cls := "NeverLikeModel", name := "drawn", desc := "(II)I" } : Jvm.MethodName)) ∈ m_T := mt_6 125 rfl rfl
theorem w_1326 : (Jvm.Cond.selects "NeverLikeModel" ({ cls := "NeverLikeModel", name := "drawn", desc := "(II)I" } : Jvm.MethodName) ({ cls := "NeverLikeModel", name := "drawn", desc := "(II)I" } : Jvm.MethodName)) ∈ m_T := mt_6 126 rfl rfl
theorem w_1327 : (Jvm.Cond.code ({ cls := "NeverLikeModel", name := "drawn", desc := "(II)I" } : Jvm.MethodName) prog_14_method_77_code (8 : Nat) (Option.some Jvm.ClassFile.FieldType.int)) ∈ m_T := mt_6 127 rfl rfl
theorem w_1328 : (Jvm.Cond.constant "NeverLikeModel" (303 : Nat) (1103515245 : Int32)) ∈ m_T := mt_6 128 rfl rfl
theorem w_1329 : (Jvm.Cond.methodLink "NeverLikeLaw" (117 : Nat) ({ cls := "NeverLikeModel", name := "image", desc := "()I" } : Jvm.MethodName)) ∈ m_T := mt_6 129 rfl rfl
theorem w_1330 : (Jvm.Cond.instanceMethod ({ cls := "NeverLikeModel", name := "image", desc := "()I" } : Jvm.MethodName)) ∈ m_T := mt_6 130 rfl rfl
theorem w_1331 : (Jvm.Cond.selects "NeverLikeModel" ({ cls := "NeverLikeModel", name := "image", desc := "()I" } : Jvm.MethodName) ({ cls := "NeverLikeModel", name := "image", desc := "()I" } : Jvm.MethodName)) ∈ m_T := mt_6 131 rfl rfl
theorem w_1332 : (Jvm.Cond.code ({ cls := "NeverLikeModel", name := "image", desc := "()I" } : Jvm.MethodName) prog_14_method_78_code (2 : Nat) (Option.some Jvm.ClassFile.FieldType.int)) ∈ m_T := mt_6 132 rfl rfl
theorem w_1333 : (Jvm.Cond.methodLink "NeverLikeLaw" (121 : Nat) ({ cls := "NeverLikeModel", name := "back", desc := "()I" } : Jvm.MethodName)) ∈ m_T := mt_6 133 rfl rfl
theorem w_1334 : (Jvm.Cond.instanceMethod ({ cls := "NeverLikeModel", name := "back", desc := "()I" } : Jvm.MethodName)) ∈ m_T := mt_6 134 rfl rfl
theorem w_1335 : (Jvm.Cond.selects "NeverLikeModel" ({ cls := "NeverLikeModel", name := "back", desc := "()I" } : Jvm.MethodName) ({ cls := "NeverLikeModel", name := "back", desc := "()I" } : Jvm.MethodName)) ∈ m_T := mt_6 135 rfl rfl
theorem w_1336 : (Jvm.Cond.code ({ cls := "NeverLikeModel", name := "back", desc := "()I" } : Jvm.MethodName) prog_14_method_79_code (2 : Nat) (Option.some Jvm.ClassFile.FieldType.int)) ∈ m_T := mt_6 136 rfl rfl
theorem w_1337 : (Jvm.Cond.methodLink "NeverLikeLaw" (125 : Nat) ({ cls := "NeverLikeModel", name := "count", desc := "(I)I" } : Jvm.MethodName)) ∈ m_T := mt_6 137 rfl rfl
theorem w_1338 : (Jvm.Cond.instanceMethod ({ cls := "NeverLikeModel", name := "count", desc := "(I)I" } : Jvm.MethodName)) ∈ m_T := mt_6 138 rfl rfl
theorem w_1339 : (Jvm.Cond.selects "NeverLikeModel" ({ cls := "NeverLikeModel", name := "count", desc := "(I)I" } : Jvm.MethodName) ({ cls := "NeverLikeModel", name := "count", desc := "(I)I" } : Jvm.MethodName)) ∈ m_T := mt_6 139 rfl rfl
theorem w_1340 : (Jvm.Cond.code ({ cls := "NeverLikeModel", name := "count", desc := "(I)I" } : Jvm.MethodName) prog_14_method_80_code (2 : Nat) (Option.some Jvm.ClassFile.FieldType.int)) ∈ m_T := mt_6 140 rfl rfl
theorem w_1341 : (Jvm.Cond.methodLink "NeverLikeLaw" (129 : Nat) ({ cls := "NeverLikeModel", name := "sheet", desc := "(III)I" } : Jvm.MethodName)) ∈ m_T := mt_6 141 rfl rfl
theorem w_1342 : (Jvm.Cond.instanceMethod ({ cls := "NeverLikeModel", name := "sheet", desc := "(III)I" } : Jvm.MethodName)) ∈ m_T := mt_6 142 rfl rfl
theorem w_1343 : (Jvm.Cond.selects "NeverLikeModel" ({ cls := "NeverLikeModel", name := "sheet", desc := "(III)I" } : Jvm.MethodName) ({ cls := "NeverLikeModel", name := "sheet", desc := "(III)I" } : Jvm.MethodName)) ∈ m_T := mt_6 143 rfl rfl
theorem w_1344 : (Jvm.Cond.code ({ cls := "NeverLikeModel", name := "sheet", desc := "(III)I" } : Jvm.MethodName) prog_14_method_82_code (5 : Nat) (Option.some Jvm.ClassFile.FieldType.int)) ∈ m_T := mt_6 144 rfl rfl
theorem w_1345 : (Jvm.Cond.methodLink "NeverLikeLaw" (133 : Nat) ({ cls := "NeverLikeModel", name := "cell", desc := "(III)I" } : Jvm.MethodName)) ∈ m_T := mt_6 145 rfl rfl
theorem w_1346 : (Jvm.Cond.instanceMethod ({ cls := "NeverLikeModel", name := "cell", desc := "(III)I" } : Jvm.MethodName)) ∈ m_T := mt_6 146 rfl rfl
theorem w_1347 : (Jvm.Cond.selects "NeverLikeModel" ({ cls := "NeverLikeModel", name := "cell", desc := "(III)I" } : Jvm.MethodName) ({ cls := "NeverLikeModel", name := "cell", desc := "(III)I" } : Jvm.MethodName)) ∈ m_T := mt_6 147 rfl rfl
theorem w_1348 : (Jvm.Cond.code ({ cls := "NeverLikeModel", name := "cell", desc := "(III)I" } : Jvm.MethodName) prog_14_method_83_code (4 : Nat) (Option.some Jvm.ClassFile.FieldType.int)) ∈ m_T := mt_6 148 rfl rfl
theorem w_1349 : (Jvm.Cond.methodLink "NeverLikeLaw" (138 : Nat) ({ cls := "NeverLikeModel", name := "copy", desc := "(IIIII)I" } : Jvm.MethodName)) ∈ m_T := mt_6 149 rfl rfl
theorem w_1350 : (Jvm.Cond.instanceMethod ({ cls := "NeverLikeModel", name := "copy", desc := "(IIIII)I" } : Jvm.MethodName)) ∈ m_T := mt_6 150 rfl rfl
theorem w_1351 : (Jvm.Cond.selects "NeverLikeModel" ({ cls := "NeverLikeModel", name := "copy", desc := "(IIIII)I" } : Jvm.MethodName) ({ cls := "NeverLikeModel", name := "copy", desc := "(IIIII)I" } : Jvm.MethodName)) ∈ m_T := mt_6 151 rfl rfl
theorem w_1352 : (Jvm.Cond.code ({ cls := "NeverLikeModel", name := "copy", desc := "(IIIII)I" } : Jvm.MethodName) prog_14_method_85_code (7 : Nat) (Option.some Jvm.ClassFile.FieldType.int)) ∈ m_T := mt_6 152 rfl rfl
theorem w_1353 : (Jvm.Cond.methodLink "NeverLikeModel" (313 : Nat) ({ cls := "NeverLikeModel", name := "hasCells", desc := "(III)Z" } : Jvm.MethodName)) ∈ m_T := mt_6 153 rfl rfl
theorem w_1355 : (Jvm.Cond.instanceMethod ({ cls := "NeverLikeModel", name := "hasCells", desc := "(III)Z" } : Jvm.MethodName)) ∈ m_T := mt_6 155 rfl rfl
theorem w_1356 : (Jvm.Cond.code ({ cls := "NeverLikeModel", name := "hasCells", desc := "(III)Z" } : Jvm.MethodName) prog_14_method_84_code (4 : Nat) (Option.some Jvm.ClassFile.FieldType.boolean)) ∈ m_T := mt_6 156 rfl rfl
theorem w_1357 : (Jvm.Cond.methodLink "NeverLikeLaw" (143 : Nat) ({ cls := "NeverLikeModel", name := "paints", desc := "(IIII)I" } : Jvm.MethodName)) ∈ m_T := mt_6 157 rfl rfl
theorem w_1358 : (Jvm.Cond.instanceMethod ({ cls := "NeverLikeModel", name := "paints", desc := "(IIII)I" } : Jvm.MethodName)) ∈ m_T := mt_6 158 rfl rfl
theorem w_1359 : (Jvm.Cond.selects "NeverLikeModel" ({ cls := "NeverLikeModel", name := "paints", desc := "(IIII)I" } : Jvm.MethodName) ({ cls := "NeverLikeModel", name := "paints", desc := "(IIII)I" } : Jvm.MethodName)) ∈ m_T := mt_6 159 rfl rfl
theorem w_1360 : (Jvm.Cond.code ({ cls := "NeverLikeModel", name := "paints", desc := "(IIII)I" } : Jvm.MethodName) prog_14_method_86_code (10 : Nat) (Option.some Jvm.ClassFile.FieldType.int)) ∈ m_T := mt_6 160 rfl rfl
theorem w_1361 : (Jvm.Cond.sameMethod "NeverLike$Shy" "NeverLike$Shy" "will" "(III)Z") ∈ m_T := mt_6 161 rfl rfl
theorem w_1362 : (Jvm.Cond.sameMethod "NeverLike$Shy" "NeverLike$Shy" "costs" "(III)I") ∈ m_T := mt_6 162 rfl rfl
theorem w_1363 : (Jvm.Cond.sameMethod "NeverLike$Steep" "NeverLike$Steep" "costs" "(III)I") ∈ m_T := mt_6 163 rfl rfl
theorem w_1372 : (Jvm.Cond.fieldLink "java/lang/String" (9 : Nat) "java/lang/String" "value" "[B") ∈ m_T := mt_6 172 rfl rfl
theorem w_1373 : (Jvm.Cond.fieldLink "java/lang/String" (15 : Nat) "java/lang/String" "coder" "B") ∈ m_T := mt_6 173 rfl rfl
theorem ws_0 : Jvm.Cond.selects "NeverLike$Reader" ⟨"NeverLike$Reader", "splitTape", "()V"⟩ ⟨"NeverLike$Reader", "splitTape", "()V"⟩ ∈ m_T := mt_0 (List.mem_of_getElem? (i := 0) rfl) rfl
theorem ws_1 : Jvm.Cond.selects "NeverLike$Reader" ⟨"NeverLike$Reader", "endOf", "(I)I"⟩ ⟨"NeverLike$Reader", "endOf", "(I)I"⟩ ∈ m_T := mt_0 (List.mem_of_getElem? (i := 1) rfl) rfl
theorem ws_2 : Jvm.Cond.selects "NeverLike$Reader" ⟨"NeverLike$Reader", "tokenOf", "(II)I"⟩ ⟨"NeverLike$Reader", "tokenOf", "(II)I"⟩ ∈ m_T := mt_0 (List.mem_of_getElem? (i := 2) rfl) rfl
theorem ws_3 : Jvm.Cond.selects "NeverLike$Reader" ⟨"NeverLike$Reader", "keyOf", "(II)I"⟩ ⟨"NeverLike$Reader", "keyOf", "(II)I"⟩ ∈ m_T := mt_0 (List.mem_of_getElem? (i := 3) rfl) rfl
theorem ws_4 : Jvm.Cond.selects "NeverLike$Reader" ⟨"NeverLike$Reader", "isWord", "(Ljava/lang/String;II)Z"⟩ ⟨"NeverLike$Reader", "isWord", "(Ljava/lang/String;II)Z"⟩ ∈ m_T := mt_0 (List.mem_of_getElem? (i := 4) rfl) rfl
theorem ws_5 : Jvm.Cond.selects "NeverLike$Reader" ⟨"NeverLike$Reader", "nameOf", "(II)I"⟩ ⟨"NeverLike$Reader", "nameOf", "(II)I"⟩ ∈ m_T := mt_0 (List.mem_of_getElem? (i := 5) rfl) rfl
theorem ws_6 : Jvm.Cond.selects "NeverLike$Reader" ⟨"NeverLike$Reader", "numberOf", "(II)I"⟩ ⟨"NeverLike$Reader", "numberOf", "(II)I"⟩ ∈ m_T := mt_0 (List.mem_of_getElem? (i := 6) rfl) rfl
theorem ws_7 : Jvm.Cond.selects "NeverLike$Reader" ⟨"NeverLike$Reader", "readClause", "(I)V"⟩ ⟨"NeverLike$Reader", "readClause", "(I)V"⟩ ∈ m_T := mt_0 (List.mem_of_getElem? (i := 7) rfl) rfl
theorem ws_8 : Jvm.Cond.selects "NeverLike$Reader" ⟨"NeverLike$Reader", "expect", "(I)V"⟩ ⟨"NeverLike$Reader", "expect", "(I)V"⟩ ∈ m_T := mt_0 (List.mem_of_getElem? (i := 8) rfl) rfl
theorem ws_9 : Jvm.Cond.selects "NeverLike$Reader" ⟨"NeverLike$Reader", "advance", "()V"⟩ ⟨"NeverLike$Reader", "advance", "()V"⟩ ∈ m_T := mt_0 (List.mem_of_getElem? (i := 9) rfl) rfl
theorem ws_10 : Jvm.Cond.selects "NeverLike$Reader" ⟨"NeverLike$Reader", "fail", "()V"⟩ ⟨"NeverLike$Reader", "fail", "()V"⟩ ∈ m_T := mt_0 (List.mem_of_getElem? (i := 10) rfl) rfl
theorem ws_11 : Jvm.Cond.selects "NeverLike$Reader" ⟨"NeverLike$Reader", "readLevel", "(II)V"⟩ ⟨"NeverLike$Reader", "readLevel", "(II)V"⟩ ∈ m_T := mt_0 (List.mem_of_getElem? (i := 11) rfl) rfl
theorem ws_12 : Jvm.Cond.selects "NeverLike$Reader" ⟨"NeverLike$Reader", "readNot", "(I)V"⟩ ⟨"NeverLike$Reader", "readNot", "(I)V"⟩ ∈ m_T := mt_0 (List.mem_of_getElem? (i := 12) rfl) rfl
theorem ws_13 : Jvm.Cond.selects "NeverLike$Reader" ⟨"NeverLike$Reader", "opens", "(I)Z"⟩ ⟨"NeverLike$Reader", "opens", "(I)Z"⟩ ∈ m_T := mt_0 (List.mem_of_getElem? (i := 13) rfl) rfl
theorem ws_14 : Jvm.Cond.selects "NeverLike$Reader" ⟨"NeverLike$Reader", "write", "(I)V"⟩ ⟨"NeverLike$Reader", "write", "(I)V"⟩ ∈ m_T := mt_0 (List.mem_of_getElem? (i := 14) rfl) rfl
theorem ws_15 : Jvm.Cond.selects "NeverLike$Reader" ⟨"NeverLike$Reader", "readOne", "(I)V"⟩ ⟨"NeverLike$Reader", "readOne", "(I)V"⟩ ∈ m_T := mt_0 (List.mem_of_getElem? (i := 15) rfl) rfl
theorem ws_16 : Jvm.Cond.selects "NeverLike$Reader" ⟨"NeverLike$Reader", "joins", "(I)Z"⟩ ⟨"NeverLike$Reader", "joins", "(I)Z"⟩ ∈ m_T := mt_0 (List.mem_of_getElem? (i := 16) rfl) rfl
theorem ws_17 : Jvm.Cond.selects "NeverLike" ⟨"NeverLike", "isSettable", "(III)Z"⟩ ⟨"NeverLike", "isSettable", "(III)Z"⟩ ∈ m_T := mt_0 (List.mem_of_getElem? (i := 17) rfl) rfl
theorem ws_18 : Jvm.Cond.selects "NeverLike" ⟨"NeverLike", "painterOf", "(I)LNeverLike$Painter;"⟩ ⟨"NeverLike", "painterOf", "(I)LNeverLike$Painter;"⟩ ∈ m_T := mt_0 (List.mem_of_getElem? (i := 18) rfl) rfl
theorem ws_19 : Jvm.Cond.selects "NeverLike" ⟨"NeverLike", "costIn", "([III)I"⟩ ⟨"NeverLike", "costIn", "([III)I"⟩ ∈ m_T := mt_0 (List.mem_of_getElem? (i := 19) rfl) rfl
theorem ws_20 : Jvm.Cond.selects "NeverLike" ⟨"NeverLike", "price", "(III)I"⟩ ⟨"NeverLike", "price", "(III)I"⟩ ∈ m_T := mt_0 (List.mem_of_getElem? (i := 20) rfl) rfl
theorem ws_21 : Jvm.Cond.selects "NeverLike" ⟨"NeverLike", "ruleNow", "()LNeverLike$Text;"⟩ ⟨"NeverLike", "ruleNow", "()LNeverLike$Text;"⟩ ∈ m_T := mt_0 (List.mem_of_getElem? (i := 21) rfl) rfl
theorem ws_22 : Jvm.Cond.selects "NeverLike" ⟨"NeverLike", "tellNames", "(III)V"⟩ ⟨"NeverLike", "tellNames", "(III)V"⟩ ∈ m_T := mt_0 (List.mem_of_getElem? (i := 22) rfl) rfl
theorem ws_23 : Jvm.Cond.selects "NeverLike$Text" ⟨"NeverLike$Text", "value", "(II[I)I"⟩ ⟨"NeverLike$Text", "value", "(II[I)I"⟩ ∈ m_T := mt_0 (List.mem_of_getElem? (i := 23) rfl) rfl
theorem ws_24 : Jvm.Cond.selects "NeverLike" ⟨"NeverLike", "leastAsked", "(III)I"⟩ ⟨"NeverLike", "leastAsked", "(III)I"⟩ ∈ m_T := mt_0 (List.mem_of_getElem? (i := 24) rfl) rfl
theorem ws_25 : Jvm.Cond.selects "NeverLike" ⟨"NeverLike", "tellPrices", "()V"⟩ ⟨"NeverLike", "tellPrices", "()V"⟩ ∈ m_T := mt_0 (List.mem_of_getElem? (i := 25) rfl) rfl
theorem ws_26 : Jvm.Cond.selects "NeverLike$Search" ⟨"NeverLike$Search", "clear", "()V"⟩ ⟨"NeverLike$Search", "clear", "()V"⟩ ∈ m_T := mt_0 (List.mem_of_getElem? (i := 26) rfl) rfl
theorem ws_27 : Jvm.Cond.selects "NeverLike$Search" ⟨"NeverLike$Search", "lookAt", "(I)V"⟩ ⟨"NeverLike$Search", "lookAt", "(I)V"⟩ ∈ m_T := mt_0 (List.mem_of_getElem? (i := 27) rfl) rfl
theorem ws_28 : Jvm.Cond.selects "NeverLike$Search" ⟨"NeverLike$Search", "spread", "(II)V"⟩ ⟨"NeverLike$Search", "spread", "(II)V"⟩ ∈ m_T := mt_0 (List.mem_of_getElem? (i := 28) rfl) rfl
theorem ws_29 : Jvm.Cond.selects "NeverLike$Search" ⟨"NeverLike$Search", "meet", "(II)V"⟩ ⟨"NeverLike$Search", "meet", "(II)V"⟩ ∈ m_T := mt_0 (List.mem_of_getElem? (i := 29) rfl) rfl
theorem ws_30 : Jvm.Cond.selects "NeverLike$Search" ⟨"NeverLike$Search", "widen", "(II)V"⟩ ⟨"NeverLike$Search", "widen", "(II)V"⟩ ∈ m_T := mt_0 (List.mem_of_getElem? (i := 30) rfl) rfl
theorem ws_31 : Jvm.Cond.selects "NeverLike$Search" ⟨"NeverLike$Search", "cheapen", "(II)V"⟩ ⟨"NeverLike$Search", "cheapen", "(II)V"⟩ ∈ m_T := mt_0 (List.mem_of_getElem? (i := 31) rfl) rfl
theorem ws_32 : Jvm.Cond.selects "NeverLike" ⟨"NeverLike", "reachFromNow", "()V"⟩ ⟨"NeverLike", "reachFromNow", "()V"⟩ ∈ m_T := mt_0 (List.mem_of_getElem? (i := 32) rfl) rfl
theorem ws_33 : Jvm.Cond.selects "NeverLike$Search" ⟨"NeverLike$Search", "stepBetween", "(II)I"⟩ ⟨"NeverLike$Search", "stepBetween", "(II)I"⟩ ∈ m_T := mt_0 (List.mem_of_getElem? (i := 33) rfl) rfl
theorem ws_34 : Jvm.Cond.selects "NeverLike$Search" ⟨"NeverLike$Search", "findCosts", "()V"⟩ ⟨"NeverLike$Search", "findCosts", "()V"⟩ ∈ m_T := mt_0 (List.mem_of_getElem? (i := 34) rfl) rfl
theorem ws_35 : Jvm.Cond.selects "NeverLike$Search" ⟨"NeverLike$Search", "costRound", "()Z"⟩ ⟨"NeverLike$Search", "costRound", "()Z"⟩ ∈ m_T := mt_0 (List.mem_of_getElem? (i := 35) rfl) rfl
theorem ws_36 : Jvm.Cond.selects "NeverLike" ⟨"NeverLike", "joyOf", "(I)I"⟩ ⟨"NeverLike", "joyOf", "(I)I"⟩ ∈ m_T := mt_0 (List.mem_of_getElem? (i := 36) rfl) rfl
theorem ws_37 : Jvm.Cond.selects "NeverLike" ⟨"NeverLike", "tryStep", "(I)I"⟩ ⟨"NeverLike", "tryStep", "(I)I"⟩ ∈ m_T := mt_0 (List.mem_of_getElem? (i := 37) rfl) rfl
theorem ws_38 : Jvm.Cond.selects "NeverLikeModel" ⟨"NeverLikeModel", "begins", "(II)V"⟩ ⟨"NeverLikeModel", "begins", "(II)V"⟩ ∈ m_T := mt_0 (List.mem_of_getElem? (i := 38) rfl) rfl
theorem ws_39 : Jvm.Cond.selects "NeverLikeModel" ⟨"NeverLikeModel", "firstRule", "()V"⟩ ⟨"NeverLikeModel", "firstRule", "()V"⟩ ∈ m_T := mt_0 (List.mem_of_getElem? (i := 39) rfl) rfl
theorem ws_40 : Jvm.Cond.selects "NeverLikeModel" ⟨"NeverLikeModel", "writes", "(I)V"⟩ ⟨"NeverLikeModel", "writes", "(I)V"⟩ ∈ m_T := mt_0 (List.mem_of_getElem? (i := 40) rfl) rfl
theorem ws_41 : Jvm.Cond.selects "NeverLikeModel" ⟨"NeverLikeModel", "areTwo", "(II)Z"⟩ ⟨"NeverLikeModel", "areTwo", "(II)Z"⟩ ∈ m_T := mt_0 (List.mem_of_getElem? (i := 41) rfl) rfl
theorem ws_42 : Jvm.Cond.selects "NeverLikeModel" ⟨"NeverLikeModel", "isHouse", "(I)Z"⟩ ⟨"NeverLikeModel", "isHouse", "(I)Z"⟩ ∈ m_T := mt_0 (List.mem_of_getElem? (i := 42) rfl) rfl
theorem ws_43 : Jvm.Cond.selects "NeverLikeModel" ⟨"NeverLikeModel", "isColour", "(I)Z"⟩ ⟨"NeverLikeModel", "isColour", "(I)Z"⟩ ∈ m_T := mt_0 (List.mem_of_getElem? (i := 43) rfl) rfl
theorem ws_44 : Jvm.Cond.selects "NeverLikeModel" ⟨"NeverLikeModel", "costsOf", "(IIII)I"⟩ ⟨"NeverLikeModel", "costsOf", "(IIII)I"⟩ ∈ m_T := mt_0 (List.mem_of_getElem? (i := 44) rfl) rfl
theorem ws_45 : Jvm.Cond.selects "NeverLikeModel" ⟨"NeverLikeModel", "isWilling", "(IIII)Z"⟩ ⟨"NeverLikeModel", "isWilling", "(IIII)Z"⟩ ∈ m_T := mt_0 (List.mem_of_getElem? (i := 45) rfl) rfl
theorem ws_46 : Jvm.Cond.selects "NeverLikeModel" ⟨"NeverLikeModel", "reads", "()V"⟩ ⟨"NeverLikeModel", "reads", "()V"⟩ ∈ m_T := mt_0 (List.mem_of_getElem? (i := 46) rfl) rfl
theorem ws_47 : Jvm.Cond.selects "NeverLikeModel" ⟨"NeverLikeModel", "isAt", "(II)Z"⟩ ⟨"NeverLikeModel", "isAt", "(II)Z"⟩ ∈ m_T := mt_0 (List.mem_of_getElem? (i := 47) rfl) rfl
theorem ws_48 : Jvm.Cond.selects "NeverLikeModel" ⟨"NeverLikeModel", "isWord", "([I)Z"⟩ ⟨"NeverLikeModel", "isWord", "([I)Z"⟩ ∈ m_T := mt_0 (List.mem_of_getElem? (i := 48) rfl) rfl
theorem ws_49 : Jvm.Cond.selects "NeverLikeModel" ⟨"NeverLikeModel", "readsRow", "()Z"⟩ ⟨"NeverLikeModel", "readsRow", "()Z"⟩ ∈ m_T := mt_0 (List.mem_of_getElem? (i := 49) rfl) rfl
theorem ws_50 : Jvm.Cond.selects "NeverLikeModel" ⟨"NeverLikeModel", "ahead", "()I"⟩ ⟨"NeverLikeModel", "ahead", "()I"⟩ ∈ m_T := mt_0 (List.mem_of_getElem? (i := 50) rfl) rfl
theorem ws_51 : Jvm.Cond.selects "NeverLikeModel" ⟨"NeverLikeModel", "mayNot", "()Z"⟩ ⟨"NeverLikeModel", "mayNot", "()Z"⟩ ∈ m_T := mt_0 (List.mem_of_getElem? (i := 51) rfl) rfl
theorem ws_52 : Jvm.Cond.selects "NeverLikeModel" ⟨"NeverLikeModel", "top", "()I"⟩ ⟨"NeverLikeModel", "top", "()I"⟩ ∈ m_T := mt_0 (List.mem_of_getElem? (i := 52) rfl) rfl
theorem ws_53 : Jvm.Cond.selects "NeverLikeModel" ⟨"NeverLikeModel", "holds", "(I)V"⟩ ⟨"NeverLikeModel", "holds", "(I)V"⟩ ∈ m_T := mt_0 (List.mem_of_getElem? (i := 53) rfl) rfl
theorem ws_54 : Jvm.Cond.selects "NeverLikeModel" ⟨"NeverLikeModel", "behind", "()I"⟩ ⟨"NeverLikeModel", "behind", "()I"⟩ ∈ m_T := mt_0 (List.mem_of_getElem? (i := 54) rfl) rfl
theorem ws_55 : Jvm.Cond.selects "NeverLikeModel" ⟨"NeverLikeModel", "letsFrom", "(I)V"⟩ ⟨"NeverLikeModel", "letsFrom", "(I)V"⟩ ∈ m_T := mt_0 (List.mem_of_getElem? (i := 55) rfl) rfl
theorem ws_56 : Jvm.Cond.selects "NeverLikeModel" ⟨"NeverLikeModel", "lets", "()V"⟩ ⟨"NeverLikeModel", "lets", "()V"⟩ ∈ m_T := mt_0 (List.mem_of_getElem? (i := 56) rfl) rfl
theorem ws_57 : Jvm.Cond.selects "NeverLikeModel" ⟨"NeverLikeModel", "findUnits", "()V"⟩ ⟨"NeverLikeModel", "findUnits", "()V"⟩ ∈ m_T := mt_0 (List.mem_of_getElem? (i := 57) rfl) rfl
theorem ws_58 : Jvm.Cond.selects "NeverLikeModel" ⟨"NeverLikeModel", "townNow", "()I"⟩ ⟨"NeverLikeModel", "townNow", "()I"⟩ ∈ m_T := mt_0 (List.mem_of_getElem? (i := 58) rfl) rfl
theorem ws_59 : Jvm.Cond.selects "NeverLikeModel" ⟨"NeverLikeModel", "isLawful", "(I)Z"⟩ ⟨"NeverLikeModel", "isLawful", "(I)Z"⟩ ∈ m_T := mt_0 (List.mem_of_getElem? (i := 59) rfl) rfl
theorem ws_60 : Jvm.Cond.selects "NeverLikeModel" ⟨"NeverLikeModel", "colourIn", "(II)I"⟩ ⟨"NeverLikeModel", "colourIn", "(II)I"⟩ ∈ m_T := mt_0 (List.mem_of_getElem? (i := 60) rfl) rfl
theorem ws_61 : Jvm.Cond.selects "NeverLikeModel" ⟨"NeverLikeModel", "isStep", "(II)Z"⟩ ⟨"NeverLikeModel", "isStep", "(II)Z"⟩ ∈ m_T := mt_0 (List.mem_of_getElem? (i := 61) rfl) rfl
theorem ws_62 : Jvm.Cond.selects "NeverLikeModel" ⟨"NeverLikeModel", "finds", "()V"⟩ ⟨"NeverLikeModel", "finds", "()V"⟩ ∈ m_T := mt_0 (List.mem_of_getElem? (i := 62) rfl) rfl
theorem ws_63 : Jvm.Cond.selects "NeverLikeModel" ⟨"NeverLikeModel", "findSteps", "()V"⟩ ⟨"NeverLikeModel", "findSteps", "()V"⟩ ∈ m_T := mt_0 (List.mem_of_getElem? (i := 63) rfl) rfl
theorem ws_64 : Jvm.Cond.selects "NeverLikeModel" ⟨"NeverLikeModel", "stepCost", "(III)I"⟩ ⟨"NeverLikeModel", "stepCost", "(III)I"⟩ ∈ m_T := mt_0 (List.mem_of_getElem? (i := 64) rfl) rfl
theorem ws_65 : Jvm.Cond.selects "NeverLikeModel" ⟨"NeverLikeModel", "says", "(IIII)I"⟩ ⟨"NeverLikeModel", "says", "(IIII)I"⟩ ∈ m_T := mt_0 (List.mem_of_getElem? (i := 65) rfl) rfl
theorem ws_66 : Jvm.Cond.selects "NeverLikeModel" ⟨"NeverLikeModel", "named", "(IIII)I"⟩ ⟨"NeverLikeModel", "named", "(IIII)I"⟩ ∈ m_T := mt_0 (List.mem_of_getElem? (i := 66) rfl) rfl
theorem ws_67 : Jvm.Cond.selects "NeverLikeModel" ⟨"NeverLikeModel", "costIn", "(III)I"⟩ ⟨"NeverLikeModel", "costIn", "(III)I"⟩ ∈ m_T := mt_0 (List.mem_of_getElem? (i := 67) rfl) rfl
theorem ws_68 : Jvm.Cond.selects "NeverLikeModel" ⟨"NeverLikeModel", "paintsOne", "(II)I"⟩ ⟨"NeverLikeModel", "paintsOne", "(II)I"⟩ ∈ m_T := mt_0 (List.mem_of_getElem? (i := 68) rfl) rfl
theorem ws_69 : Jvm.Cond.selects "NeverLikeModel" ⟨"NeverLikeModel", "findNow", "()I"⟩ ⟨"NeverLikeModel", "findNow", "()I"⟩ ∈ m_T := mt_0 (List.mem_of_getElem? (i := 69) rfl) rfl
theorem ws_70 : Jvm.Cond.selects "NeverLikeModel" ⟨"NeverLikeModel", "findFrom", "(I)I"⟩ ⟨"NeverLikeModel", "findFrom", "(I)I"⟩ ∈ m_T := mt_0 (List.mem_of_getElem? (i := 70) rfl) rfl
theorem ws_71 : Jvm.Cond.selects "NeverLikeModel" ⟨"NeverLikeModel", "behindStep", "(III)I"⟩ ⟨"NeverLikeModel", "behindStep", "(III)I"⟩ ∈ m_T := mt_0 (List.mem_of_getElem? (i := 71) rfl) rfl
theorem ws_72 : Jvm.Cond.selects "NeverLikeModel" ⟨"NeverLikeModel", "frozen", "(I)I"⟩ ⟨"NeverLikeModel", "frozen", "(I)I"⟩ ∈ m_T := mt_0 (List.mem_of_getElem? (i := 72) rfl) rfl
theorem ws_73 : Jvm.Cond.selects "NeverLikeModel" ⟨"NeverLikeModel", "parts", "()I"⟩ ⟨"NeverLikeModel", "parts", "()I"⟩ ∈ m_T := mt_0 (List.mem_of_getElem? (i := 73) rfl) rfl
theorem ws_74 : Jvm.Cond.selects "NeverLikeModel" ⟨"NeverLikeModel", "isBothWays", "(III)Z"⟩ ⟨"NeverLikeModel", "isBothWays", "(III)Z"⟩ ∈ m_T := mt_0 (List.mem_of_getElem? (i := 74) rfl) rfl
theorem ws_75 : Jvm.Cond.selects "NeverLikeModel" ⟨"NeverLikeModel", "isTown", "(I)Z"⟩ ⟨"NeverLikeModel", "isTown", "(I)Z"⟩ ∈ m_T := mt_0 (List.mem_of_getElem? (i := 75) rfl) rfl
theorem ws_76 : Jvm.Cond.selects "NeverLikeModel" ⟨"NeverLikeModel", "findTo", "(I)V"⟩ ⟨"NeverLikeModel", "findTo", "(I)V"⟩ ∈ m_T := mt_0 (List.mem_of_getElem? (i := 76) rfl) rfl
theorem ws_77 : Jvm.Cond.selects "NeverLikeModel" ⟨"NeverLikeModel", "findCosts", "()V"⟩ ⟨"NeverLikeModel", "findCosts", "()V"⟩ ∈ m_T := mt_0 (List.mem_of_getElem? (i := 77) rfl) rfl
theorem ws_78 : Jvm.Cond.selects "NeverLikeModel" ⟨"NeverLikeModel", "wished", "(I)I"⟩ ⟨"NeverLikeModel", "wished", "(I)I"⟩ ∈ m_T := mt_0 (List.mem_of_getElem? (i := 78) rfl) rfl
theorem ws_79 : Jvm.Cond.selects "NeverLikeModel" ⟨"NeverLikeModel", "joyOf", "(I)I"⟩ ⟨"NeverLikeModel", "joyOf", "(I)I"⟩ ∈ m_T := mt_0 (List.mem_of_getElem? (i := 79) rfl) rfl
theorem ws_80 : Jvm.Cond.selects "NeverLikeModel" ⟨"NeverLikeModel", "hasCells", "(III)Z"⟩ ⟨"NeverLikeModel", "hasCells", "(III)Z"⟩ ∈ m_T := mt_0 (List.mem_of_getElem? (i := 80) rfl) rfl
set_option maxRecDepth 20000 in
theorem in_0 : ∀ w ∈ u_ws RX0 TX0 2, w ∈ m_T := mt_sub _ (tables_1_3) (fun _ h => mc_3 h) [28, 29] (by decide +kernel) (by decide +kernel)
theorem cl_0 : vwCl[0]? = some (RX0, TX0, 2) := rfl
set_option maxRecDepth 20000 in
theorem in_1 : ∀ w ∈ u_ws RX1 TX1 2, w ∈ m_T := mt_sub _ (tables_1_3) (fun _ h => mc_3 h) [10, 11] (by decide +kernel) (by decide +kernel)
theorem cl_1 : vwCl[1]? = some (RX1, TX1, 2) := rfl
set_option maxRecDepth 20000 in
theorem in_2 : ∀ w ∈ u_ws RX2 TX2 2, w ∈ m_T := mt_sub _ (tables_1_3) (fun _ h => mc_3 h) [19, 20] (by decide +kernel) (by decide +kernel)
theorem cl_2 : vwCl[2]? = some (RX2, TX2, 2) := rfl
set_option maxRecDepth 20000 in
theorem in_3 : ∀ w ∈ u_ws RX3 TX3 2, w ∈ m_T := mt_sub _ (tables_1_3) (fun _ h => mc_3 h) [33, 34] (by decide +kernel) (by decide +kernel)
theorem cl_3 : vwCl[3]? = some (RX3, TX3, 2) := rfl
set_option maxRecDepth 20000 in
theorem in_4 : ∀ w ∈ u_ws RX4 TX4 9, w ∈ m_T := mt_sub _ (tables_1_1) (fun _ h => mc_1 h) [154, 156, 158, 160, 162, 164, 166, 168, 170] (by decide +kernel) (by decide +kernel)
theorem cl_4 : vwCl[4]? = some (RX4, TX4, 9) := rfl
set_option maxRecDepth 20000 in
theorem in_5 : ∀ w ∈ u_ws RX5 TX5 12, w ∈ m_T := mt_sub _ (tables_1_1) (fun _ h => mc_1 h) [109, 111, 113, 115, 117, 119, 121, 123, 125, 127, 129, 131] (by decide +kernel) (by decide +kernel)
theorem cl_5 : vwCl[5]? = some (RX5, TX5, 12) := rfl
set_option maxRecDepth 20000 in
theorem in_6 : ∀ w ∈ u_ws RX6 TX6 2, w ∈ m_T := mt_sub _ (tables_1_4) (fun _ h => mc_4 h) [136, 138] (by decide +kernel) (by decide +kernel)
theorem cl_6 : vwCl[6]? = some (RX6, TX6, 2) := rfl
set_option maxRecDepth 20000 in
theorem in_7 : ∀ w ∈ u_ws RX7 TX7 2, w ∈ m_T := mt_sub _ (tables_1_3) (fun _ h => mc_3 h) [1, 2] (by decide +kernel) (by decide +kernel)
theorem cl_7 : vwCl[7]? = some (RX7, TX7, 2) := rfl
set_option maxRecDepth 20000 in
theorem in_8 : ∀ w ∈ u_ws RX8 TX8 2, w ∈ m_T := mt_sub _ (tables_1_2) (fun _ h => mc_2 h) [230, 232] (by decide +kernel) (by decide +kernel)
theorem cl_8 : vwCl[8]? = some (RX8, TX8, 2) := rfl
set_option maxRecDepth 20000 in
theorem in_9 : ∀ w ∈ u_ws RX9 TX9 4, w ∈ m_T := mt_sub _ (tables_1_2) (fun _ h => mc_2 h) [102, 104, 106, 108] (by decide +kernel) (by decide +kernel)
theorem cl_9 : vwCl[9]? = some (RX9, TX9, 4) := rfl
set_option maxRecDepth 20000 in
theorem in_10 : ∀ w ∈ u_ws RX10 TX10 9, w ∈ m_T := mt_sub _ (tables_1_1) (fun _ h => mc_1 h) [69, 71, 73, 75, 77, 79, 81, 83, 85] (by decide +kernel) (by decide +kernel)
theorem cl_10 : vwCl[10]? = some (RX10, TX10, 9) := rfl
set_option maxRecDepth 20000 in
theorem in_11 : ∀ w ∈ u_ws RX11 TX11 13, w ∈ m_T := mt_sub _ (tables_1_2) (fun _ h => mc_2 h) [125, 127, 129, 131, 133, 135, 137, 139, 141, 143, 145, 147, 149] (by decide +kernel) (by decide +kernel)
theorem cl_11 : vwCl[11]? = some (RX11, TX11, 13) := rfl
set_option maxRecDepth 20000 in
theorem in_12 : ∀ w ∈ u_ws RX12 TX12 42, w ∈ m_T := mt_sub _ (tables_1_4 ++ tables_1_5) (fun _ h => (List.mem_append.mp h).elim (fun h => mc_4 h) (fun h => mc_5 h)) [235, 237, 239, 241, 243, 245, 247, 249, 251, 253, 255, 257, 259, 261, 263, 265, 267, 269, 271, 273, 275, 277, 279, 281, 283, 285, 287, 289, 291, 293, 295, 297, 299, 301, 303, 305, 307, 309, 311, 313, 315, 317] (by decide +kernel) (by decide +kernel)
theorem cl_12 : vwCl[12]? = some (RX12, TX12, 42) := rfl
