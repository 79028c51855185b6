/-! ONE list of words for all methods: the tables' good words. tw_k_i: the i-th word of the k-th chunk of tables_1 is among them. -/
def TB : List Cond := lw_tbl.filter goodWord
theorem tb_all : ∀ w ∈ TB, goodWord w = true := fun _ h => (List.mem_filter.mp h).2
theorem tb_of {w : Cond} (h : w ∈ tables_1) (g : goodWord w = true) : w ∈ TB := List.mem_filter.mpr ⟨List.mem_append_right _ h, g⟩
theorem tb_1 {w : Cond} (i : Nat) (h : tables_1_1[i]? = some w) (g : goodWord w = true) : w ∈ TB := tb_of (List.mem_append_left _ (List.mem_of_getElem? h)) g
theorem tb_2 {w : Cond} (i : Nat) (h : tables_1_2[i]? = some w) (g : goodWord w = true) : w ∈ TB := tb_of (List.mem_append_right _ (List.mem_append_left _ (List.mem_of_getElem? h))) g
theorem tb_3 {w : Cond} (i : Nat) (h : tables_1_3[i]? = some w) (g : goodWord w = true) : w ∈ TB := tb_of (List.mem_append_right _ (List.mem_append_right _ (List.mem_append_left _ (List.mem_of_getElem? h)))) g
theorem tb_4 {w : Cond} (i : Nat) (h : tables_1_4[i]? = some w) (g : goodWord w = true) : w ∈ TB := tb_of (List.mem_append_right _ (List.mem_append_right _ (List.mem_append_right _ (List.mem_append_left _ (List.mem_of_getElem? h))))) g
theorem tb_5 {w : Cond} (i : Nat) (h : tables_1_5[i]? = some w) (g : goodWord w = true) : w ∈ TB := tb_of (List.mem_append_right _ (List.mem_append_right _ (List.mem_append_right _ (List.mem_append_right _ (List.mem_of_getElem? h))))) g
theorem tb_s {w : Cond} (i : Nat) (h : (k2_sels lw_privs)[i]? = some w) (g : goodWord w = true) : w ∈ TB := List.mem_filter.mpr ⟨List.mem_append_left _ (List.mem_of_getElem? h), g⟩

theorem tw_1_0 : (Jvm.Cond.initialized "ToolCribLaw") ∈ TB := tb_1 0 rfl rfl
theorem tw_1_1 : (Jvm.Cond.initialized "ToolCrib") ∈ TB := tb_1 1 rfl rfl
theorem tw_1_2 : (Jvm.Cond.initialized "java/util/AbstractCollection") ∈ TB := tb_1 2 rfl rfl
theorem tw_1_3 : (Jvm.Cond.initialized "java/util/AbstractList") ∈ TB := tb_1 3 rfl rfl
theorem tw_1_4 : (Jvm.Cond.initialized "java/util/ArrayList") ∈ TB := tb_1 4 rfl rfl
theorem tw_1_5 : (Jvm.Cond.initialized "ToolCrib$Walk") ∈ TB := tb_1 5 rfl rfl
theorem tw_1_6 : (Jvm.Cond.initialized "ToolCrib$Trial") ∈ TB := tb_1 6 rfl rfl
theorem tw_1_7 : (Jvm.Cond.initialized "ToolCrib$Gauge") ∈ TB := tb_1 7 rfl rfl
theorem tw_1_8 : (Jvm.Cond.initialized "jdk/internal/util/ArraysSupport") ∈ TB := tb_1 8 rfl rfl
theorem tw_1_9 : (Jvm.Cond.initialized "java/lang/Math") ∈ TB := tb_1 9 rfl rfl
theorem tw_1_10 : (Jvm.Cond.initialized "java/util/Arrays") ∈ TB := tb_1 10 rfl rfl
theorem tw_1_11 : (Jvm.Cond.initialized "java/lang/System") ∈ TB := tb_1 11 rfl rfl
theorem tw_1_12 : (Jvm.Cond.initialized "java/lang/Throwable") ∈ TB := tb_1 12 rfl rfl
theorem tw_1_13 : (Jvm.Cond.initialized "java/lang/Exception") ∈ TB := tb_1 13 rfl rfl
theorem tw_1_14 : (Jvm.Cond.initialized "java/lang/RuntimeException") ∈ TB := tb_1 14 rfl rfl
theorem tw_1_15 : (Jvm.Cond.initialized "java/lang/IllegalStateException") ∈ TB := tb_1 15 rfl rfl
theorem tw_1_16 : (Jvm.Cond.initialized "ToolCrib$Drawing") ∈ TB := tb_1 16 rfl rfl
theorem tw_1_17 : (Jvm.Cond.initialized "java/lang/IllegalArgumentException") ∈ TB := tb_1 17 rfl rfl
theorem tw_1_18 : (Jvm.Cond.initialized "ToolCrib$Pallet") ∈ TB := tb_1 18 rfl rfl
theorem tw_1_19 : (Jvm.Cond.initialized "java/lang/IndexOutOfBoundsException") ∈ TB := tb_1 19 rfl rfl
theorem tw_1_20 : (Jvm.Cond.initialized "java/util/Objects") ∈ TB := tb_1 20 rfl rfl
theorem tw_1_21 : (Jvm.Cond.initialized "jdk/internal/util/Preconditions") ∈ TB := tb_1 21 rfl rfl
theorem tw_1_22 : (Jvm.Cond.initialized "ToolCrib$Tool") ∈ TB := tb_1 22 rfl rfl
theorem tw_1_23 : (Jvm.Cond.initialized "ToolCrib$Program") ∈ TB := tb_1 23 rfl rfl
theorem tw_1_24 : (Jvm.Cond.initialized "ToolCrib$Paper") ∈ TB := tb_1 24 rfl rfl
theorem tw_1_25 : (Jvm.Cond.methodLink "ToolCribLaw" (214 : Nat) ({ cls := "ToolCribLaw", name := "isHeld", desc := "([I)Z" } : Jvm.MethodName)) ∈ TB := tb_1 25 rfl rfl
theorem tw_1_26 : (Jvm.Cond.static ({ cls := "ToolCribLaw", name := "isHeld", desc := "([I)Z" } : Jvm.MethodName)) ∈ TB := tb_1 26 rfl rfl
theorem tw_1_27 : (Jvm.Cond.codeWith ({ cls := "ToolCribLaw", name := "isHeld", desc := "([I)Z" } : Jvm.MethodName) method_27_code (2 : Nat) (Option.some Jvm.ClassFile.FieldType.boolean) [((0 : Nat), (4 : Nat), (5 : Nat), (208 : Nat)), ((0 : Nat), (4 : Nat), (8 : Nat), (210 : Nat)), ((0 : Nat), (4 : Nat), (11 : Nat), (212 : Nat))]) ∈ TB := tb_1 27 rfl rfl
theorem tw_1_28 : (Jvm.Cond.classLink "ToolCribLaw" (208 : Nat) "java/lang/IndexOutOfBoundsException") ∈ TB := tb_1 28 rfl rfl
theorem tw_1_29 : (Jvm.Cond.classLink "ToolCribLaw" (210 : Nat) "java/lang/IllegalArgumentException") ∈ TB := tb_1 29 rfl rfl
theorem tw_1_30 : (Jvm.Cond.classLink "ToolCribLaw" (212 : Nat) "java/lang/IllegalStateException") ∈ TB := tb_1 30 rfl rfl
theorem tw_1_31 : (Jvm.Cond.methodLink "ToolCribLaw" (204 : Nat) ({ cls := "ToolCribLaw", name := "holds", desc := "([I)Z" } : Jvm.MethodName)) ∈ TB := tb_1 31 rfl rfl
theorem tw_1_32 : (Jvm.Cond.static ({ cls := "ToolCribLaw", name := "holds", desc := "([I)Z" } : Jvm.MethodName)) ∈ TB := tb_1 32 rfl rfl
theorem tw_1_33 : (Jvm.Cond.code ({ cls := "ToolCribLaw", name := "holds", desc := "([I)Z" } : Jvm.MethodName) method_26_code (15 : Nat) (Option.some Jvm.ClassFile.FieldType.boolean)) ∈ TB := tb_1 33 rfl rfl
theorem tw_1_34 : (Jvm.Cond.classLink "ToolCribLaw" (68 : Nat) "ToolCrib") ∈ TB := tb_1 34 rfl rfl
theorem tw_1_35 : (Jvm.Cond.instantiable "ToolCrib" (13 : Nat)) ∈ TB := tb_1 35 rfl rfl
theorem tw_1_36 : (Jvm.Cond.methodLink "ToolCribLaw" (171 : Nat) ({ cls := "ToolCrib", name := "<init>", desc := "()V" } : Jvm.MethodName)) ∈ TB := tb_1 36 rfl rfl
theorem tw_1_37 : (Jvm.Cond.instanceMethod ({ cls := "ToolCrib", name := "<init>", desc := "()V" } : Jvm.MethodName)) ∈ TB := tb_1 37 rfl rfl
theorem tw_1_38 : (Jvm.Cond.code ({ cls := "ToolCrib", name := "<init>", desc := "()V" } : Jvm.MethodName) prog_1_method_1_code (2 : Nat) (Option.none : Option Jvm.ClassFile.FieldType)) ∈ TB := tb_1 38 rfl rfl
theorem tw_1_39 : (Jvm.Cond.methodLink "ToolCrib" (3 : Nat) ({ cls := "java/lang/Object", name := "<init>", desc := "()V" } : Jvm.MethodName)) ∈ TB := tb_1 39 rfl rfl
theorem tw_1_40 : (Jvm.Cond.instanceMethod ({ cls := "java/lang/Object", name := "<init>", desc := "()V" } : Jvm.MethodName)) ∈ TB := tb_1 40 rfl rfl
theorem tw_1_41 : (Jvm.Cond.code ({ cls := "java/lang/Object", name := "<init>", desc := "()V" } : Jvm.MethodName) object_method_1_code (1 : Nat) (Option.none : Option Jvm.ClassFile.FieldType)) ∈ TB := tb_1 41 rfl rfl
theorem tw_1_42 : (Jvm.Cond.classLink "ToolCrib" (9 : Nat) "java/util/ArrayList") ∈ TB := tb_1 42 rfl rfl
theorem tw_1_43 : (Jvm.Cond.instantiable "java/util/ArrayList" (3 : Nat)) ∈ TB := tb_1 43 rfl rfl
theorem tw_1_44 : (Jvm.Cond.methodLink "ToolCrib" (11 : Nat) ({ cls := "java/util/ArrayList", name := "<init>", desc := "()V" } : Jvm.MethodName)) ∈ TB := tb_1 44 rfl rfl
theorem tw_1_45 : (Jvm.Cond.instanceMethod ({ cls := "java/util/ArrayList", name := "<init>", desc := "()V" } : Jvm.MethodName)) ∈ TB := tb_1 45 rfl rfl
theorem tw_1_46 : (Jvm.Cond.code ({ cls := "java/util/ArrayList", name := "<init>", desc := "()V" } : Jvm.MethodName) prog_26_method_2_code (1 : Nat) (Option.none : Option Jvm.ClassFile.FieldType)) ∈ TB := tb_1 46 rfl rfl
theorem tw_1_47 : (Jvm.Cond.methodLink "java/util/ArrayList" (1 : Nat) ({ cls := "java/util/AbstractList", name := "<init>", desc := "()V" } : Jvm.MethodName)) ∈ TB := tb_1 47 rfl rfl
theorem tw_1_48 : (Jvm.Cond.instanceMethod ({ cls := "java/util/AbstractList", name := "<init>", desc := "()V" } : Jvm.MethodName)) ∈ TB := tb_1 48 rfl rfl
theorem tw_1_49 : (Jvm.Cond.code ({ cls := "java/util/AbstractList", name := "<init>", desc := "()V" } : Jvm.MethodName) prog_25_method_1_code (1 : Nat) (Option.none : Option Jvm.ClassFile.FieldType)) ∈ TB := tb_1 49 rfl rfl
theorem tw_1_50 : (Jvm.Cond.methodLink "java/util/AbstractList" (1 : Nat) ({ cls := "java/util/AbstractCollection", name := "<init>", desc := "()V" } : Jvm.MethodName)) ∈ TB := tb_1 50 rfl rfl
theorem tw_1_51 : (Jvm.Cond.instanceMethod ({ cls := "java/util/AbstractCollection", name := "<init>", desc := "()V" } : Jvm.MethodName)) ∈ TB := tb_1 51 rfl rfl
theorem tw_1_52 : (Jvm.Cond.code ({ cls := "java/util/AbstractCollection", name := "<init>", desc := "()V" } : Jvm.MethodName) prog_24_method_1_code (1 : Nat) (Option.none : Option Jvm.ClassFile.FieldType)) ∈ TB := tb_1 52 rfl rfl
theorem tw_1_53 : (Jvm.Cond.methodLink "java/util/AbstractCollection" (1 : Nat) ({ cls := "java/lang/Object", name := "<init>", desc := "()V" } : Jvm.MethodName)) ∈ TB := tb_1 53 rfl rfl
theorem tw_1_54 : (Jvm.Cond.fieldLink "java/util/ArrayList" (39 : Nat) "java/util/ArrayList" "DEFAULTCAPACITY_EMPTY_ELEMENTDATA" "[Ljava/lang/Object;") ∈ TB := tb_1 54 rfl rfl
theorem tw_1_56 : (Jvm.Cond.fieldLink "java/util/ArrayList" (9 : Nat) "java/util/ArrayList" "elementData" "[Ljava/lang/Object;") ∈ TB := tb_1 56 rfl rfl
theorem tw_1_57 : (Jvm.Cond.fieldLink "java/util/ArrayList" (48 : Nat) "java/util/ArrayList" "size" "I") ∈ TB := tb_1 57 rfl rfl
theorem tw_1_58 : (Jvm.Cond.fieldLink "java/util/AbstractList" (7 : Nat) "java/util/AbstractList" "modCount" "I") ∈ TB := tb_1 58 rfl rfl
theorem tw_1_59 : (Jvm.Cond.fieldLink "java/util/ArrayList" (63 : Nat) "java/util/ArrayList" "modCount" "I") ∈ TB := tb_1 59 rfl rfl
theorem tw_1_60 : (Jvm.Cond.sameField "java/util/ArrayList" "java/util/AbstractList" "modCount" "I") ∈ TB := tb_1 60 rfl rfl
theorem tw_1_61 : (Jvm.Cond.lays "java/util/ArrayList" "java/util/ArrayList" "elementData" "[Ljava/lang/Object;") ∈ TB := tb_1 61 rfl rfl
theorem tw_1_63 : (Jvm.Cond.lays "java/util/ArrayList" "java/util/ArrayList" "size" "I") ∈ TB := tb_1 63 rfl rfl
theorem tw_1_65 : (Jvm.Cond.lays "java/util/ArrayList" "java/util/AbstractList" "modCount" "I") ∈ TB := tb_1 65 rfl rfl
theorem tw_1_68 : (Jvm.Cond.classLink "ToolCrib" (41 : Nat) "ToolCrib$Walk") ∈ TB := tb_1 68 rfl rfl
theorem tw_1_69 : (Jvm.Cond.instantiable "ToolCrib$Walk" (11 : Nat)) ∈ TB := tb_1 69 rfl rfl
theorem tw_1_71 : (Jvm.Cond.instanceMethod ({ cls := "ToolCrib$Walk", name := "<init>", desc := "()V" } : Jvm.MethodName)) ∈ TB := tb_1 71 rfl rfl
theorem tw_1_72 : (Jvm.Cond.code ({ cls := "ToolCrib$Walk", name := "<init>", desc := "()V" } : Jvm.MethodName) prog_9_method_1_code (1 : Nat) (Option.none : Option Jvm.ClassFile.FieldType)) ∈ TB := tb_1 72 rfl rfl
theorem tw_1_73 : (Jvm.Cond.methodLink "ToolCrib$Walk" (3 : Nat) ({ cls := "java/lang/Object", name := "<init>", desc := "()V" } : Jvm.MethodName)) ∈ TB := tb_1 73 rfl rfl
theorem tw_1_74 : (Jvm.Cond.classLink "ToolCrib$Walk" (9 : Nat) "java/util/ArrayList") ∈ TB := tb_1 74 rfl rfl
theorem tw_1_75 : (Jvm.Cond.methodLink "ToolCrib$Walk" (11 : Nat) ({ cls := "java/util/ArrayList", name := "<init>", desc := "()V" } : Jvm.MethodName)) ∈ TB := tb_1 75 rfl rfl
theorem tw_1_76 : (Jvm.Cond.fieldLink "ToolCrib$Walk" (12 : Nat) "ToolCrib$Walk" "programs" "Ljava/util/ArrayList;") ∈ TB := tb_1 76 rfl rfl
theorem tw_1_77 : (Jvm.Cond.fieldLink "ToolCrib" (62 : Nat) "ToolCrib$Walk" "programs" "Ljava/util/ArrayList;") ∈ TB := tb_1 77 rfl rfl
theorem tw_1_78 : (Jvm.Cond.fieldLink "ToolCrib$Walk" (18 : Nat) "ToolCrib$Walk" "open" "Ljava/util/ArrayList;") ∈ TB := tb_1 78 rfl rfl
theorem tw_1_79 : (Jvm.Cond.fieldLink "ToolCrib$Walk" (21 : Nat) "ToolCrib$Walk" "next" "[I") ∈ TB := tb_1 79 rfl rfl
theorem tw_1_80 : (Jvm.Cond.fieldLink "ToolCrib$Walk" (25 : Nat) "ToolCrib$Walk" "at" "[I") ∈ TB := tb_1 80 rfl rfl
theorem tw_1_81 : (Jvm.Cond.fieldLink "ToolCrib$Trial" (70 : Nat) "ToolCrib$Walk" "at" "[I") ∈ TB := tb_1 81 rfl rfl
theorem tw_1_82 : (Jvm.Cond.fieldLink "ToolCrib" (392 : Nat) "ToolCrib$Walk" "at" "[I") ∈ TB := tb_1 82 rfl rfl
theorem tw_1_83 : (Jvm.Cond.fieldLink "ToolCrib$Walk" (31 : Nat) "ToolCrib$Walk" "axis" "I") ∈ TB := tb_1 83 rfl rfl
theorem tw_1_84 : (Jvm.Cond.fieldLink "ToolCrib$Walk" (35 : Nat) "ToolCrib$Walk" "goal" "I") ∈ TB := tb_1 84 rfl rfl
theorem tw_1_85 : (Jvm.Cond.fieldLink "ToolCrib$Walk" (38 : Nat) "ToolCrib$Walk" "blocksDone" "I") ∈ TB := tb_1 85 rfl rfl
theorem tw_1_86 : (Jvm.Cond.fieldLink "ToolCrib$Walk" (41 : Nat) "ToolCrib$Walk" "isCutting" "Z") ∈ TB := tb_1 86 rfl rfl
theorem tw_1_87 : (Jvm.Cond.fieldLink "ToolCrib$Walk" (45 : Nat) "ToolCrib$Walk" "isFromSpindle" "Z") ∈ TB := tb_1 87 rfl rfl
theorem tw_1_88 : (Jvm.Cond.fieldLink "ToolCrib$Walk" (48 : Nat) "ToolCrib$Walk" "kind" "I") ∈ TB := tb_1 88 rfl rfl
theorem tw_1_89 : (Jvm.Cond.fieldLink "ToolCrib$Trial" (63 : Nat) "ToolCrib$Walk" "kind" "I") ∈ TB := tb_1 89 rfl rfl
theorem tw_1_90 : (Jvm.Cond.fieldLink "ToolCrib" (381 : Nat) "ToolCrib$Walk" "kind" "I") ∈ TB := tb_1 90 rfl rfl
theorem tw_1_91 : (Jvm.Cond.fieldLink "ToolCrib$Walk" (51 : Nat) "ToolCrib$Walk" "wrong" "I") ∈ TB := tb_1 91 rfl rfl
theorem tw_1_92 : (Jvm.Cond.fieldLink "ToolCrib$Trial" (73 : Nat) "ToolCrib$Walk" "wrong" "I") ∈ TB := tb_1 92 rfl rfl
theorem tw_1_93 : (Jvm.Cond.laysFinal "ToolCrib$Walk" "ToolCrib$Walk" "programs" "Ljava/util/ArrayList;") ∈ TB := tb_1 93 rfl rfl
theorem tw_1_95 : (Jvm.Cond.laysFinal "ToolCrib$Walk" "ToolCrib$Walk" "open" "Ljava/util/ArrayList;") ∈ TB := tb_1 95 rfl rfl
theorem tw_1_97 : (Jvm.Cond.laysFinal "ToolCrib$Walk" "ToolCrib$Walk" "next" "[I") ∈ TB := tb_1 97 rfl rfl
theorem tw_1_99 : (Jvm.Cond.laysFinal "ToolCrib$Walk" "ToolCrib$Walk" "at" "[I") ∈ TB := tb_1 99 rfl rfl
theorem tw_1_101 : (Jvm.Cond.lays "ToolCrib$Walk" "ToolCrib$Walk" "axis" "I") ∈ TB := tb_1 101 rfl rfl
theorem tw_1_103 : (Jvm.Cond.lays "ToolCrib$Walk" "ToolCrib$Walk" "goal" "I") ∈ TB := tb_1 103 rfl rfl
theorem tw_1_105 : (Jvm.Cond.lays "ToolCrib$Walk" "ToolCrib$Walk" "blocksDone" "I") ∈ TB := tb_1 105 rfl rfl
theorem tw_1_107 : (Jvm.Cond.lays "ToolCrib$Walk" "ToolCrib$Walk" "isCutting" "Z") ∈ TB := tb_1 107 rfl rfl
theorem tw_1_109 : (Jvm.Cond.lays "ToolCrib$Walk" "ToolCrib$Walk" "isFromSpindle" "Z") ∈ TB := tb_1 109 rfl rfl
theorem tw_1_111 : (Jvm.Cond.lays "ToolCrib$Walk" "ToolCrib$Walk" "kind" "I") ∈ TB := tb_1 111 rfl rfl
theorem tw_1_113 : (Jvm.Cond.lays "ToolCrib$Walk" "ToolCrib$Walk" "wrong" "I") ∈ TB := tb_1 113 rfl rfl
theorem tw_1_116 : (Jvm.Cond.arrayClass Jvm.ClassFile.FieldType.int) ∈ TB := tb_1 116 rfl rfl
theorem tw_1_117 : (Jvm.Cond.classLink "ToolCrib" (48 : Nat) "ToolCrib$Trial") ∈ TB := tb_1 117 rfl rfl
theorem tw_1_118 : (Jvm.Cond.instantiable "ToolCrib$Trial" (5 : Nat)) ∈ TB := tb_1 118 rfl rfl
theorem tw_1_120 : (Jvm.Cond.instanceMethod ({ cls := "ToolCrib$Trial", name := "<init>", desc := "()V" } : Jvm.MethodName)) ∈ TB := tb_1 120 rfl rfl
theorem tw_1_121 : (Jvm.Cond.code ({ cls := "ToolCrib$Trial", name := "<init>", desc := "()V" } : Jvm.MethodName) prog_8_method_1_code (1 : Nat) (Option.none : Option Jvm.ClassFile.FieldType)) ∈ TB := tb_1 121 rfl rfl
theorem tw_1_122 : (Jvm.Cond.methodLink "ToolCrib$Trial" (3 : Nat) ({ cls := "java/lang/Object", name := "<init>", desc := "()V" } : Jvm.MethodName)) ∈ TB := tb_1 122 rfl rfl
theorem tw_1_123 : (Jvm.Cond.fieldLink "ToolCrib$Trial" (9 : Nat) "ToolCrib$Trial" "heights" "[I") ∈ TB := tb_1 123 rfl rfl
theorem tw_1_124 : (Jvm.Cond.fieldLink "ToolCrib$Trial" (15 : Nat) "ToolCrib$Trial" "cutsByKind" "[I") ∈ TB := tb_1 124 rfl rfl
theorem tw_1_125 : (Jvm.Cond.fieldLink "ToolCrib" (206 : Nat) "ToolCrib$Trial" "cutsByKind" "[I") ∈ TB := tb_1 125 rfl rfl
theorem tw_1_126 : (Jvm.Cond.fieldLink "ToolCrib$Trial" (33 : Nat) "ToolCrib$Trial" "steps" "I") ∈ TB := tb_1 126 rfl rfl
theorem tw_1_127 : (Jvm.Cond.fieldLink "ToolCrib" (168 : Nat) "ToolCrib$Trial" "steps" "I") ∈ TB := tb_1 127 rfl rfl
theorem tw_1_128 : (Jvm.Cond.fieldLink "ToolCrib$Trial" (37 : Nat) "ToolCrib$Trial" "cuts" "I") ∈ TB := tb_1 128 rfl rfl
theorem tw_1_129 : (Jvm.Cond.fieldLink "ToolCrib" (171 : Nat) "ToolCrib$Trial" "cuts" "I") ∈ TB := tb_1 129 rfl rfl
theorem tw_1_130 : (Jvm.Cond.fieldLink "ToolCrib$Trial" (60 : Nat) "ToolCrib$Trial" "wrong" "I") ∈ TB := tb_1 130 rfl rfl
theorem tw_1_131 : (Jvm.Cond.fieldLink "ToolCrib" (165 : Nat) "ToolCrib$Trial" "wrong" "I") ∈ TB := tb_1 131 rfl rfl
theorem tw_1_132 : (Jvm.Cond.laysFinal "ToolCrib$Trial" "ToolCrib$Trial" "heights" "[I") ∈ TB := tb_1 132 rfl rfl
theorem tw_1_134 : (Jvm.Cond.laysFinal "ToolCrib$Trial" "ToolCrib$Trial" "cutsByKind" "[I") ∈ TB := tb_1 134 rfl rfl
theorem tw_1_136 : (Jvm.Cond.lays "ToolCrib$Trial" "ToolCrib$Trial" "steps" "I") ∈ TB := tb_1 136 rfl rfl
theorem tw_1_138 : (Jvm.Cond.lays "ToolCrib$Trial" "ToolCrib$Trial" "cuts" "I") ∈ TB := tb_1 138 rfl rfl
theorem tw_1_140 : (Jvm.Cond.lays "ToolCrib$Trial" "ToolCrib$Trial" "wrong" "I") ∈ TB := tb_1 140 rfl rfl
theorem tw_1_143 : (Jvm.Cond.classLink "ToolCrib" (55 : Nat) "ToolCrib$Gauge") ∈ TB := tb_1 143 rfl rfl
theorem tw_1_144 : (Jvm.Cond.instantiable "ToolCrib$Gauge" (2 : Nat)) ∈ TB := tb_1 144 rfl rfl
theorem tw_1_146 : (Jvm.Cond.instanceMethod ({ cls := "ToolCrib$Gauge", name := "<init>", desc := "()V" } : Jvm.MethodName)) ∈ TB := tb_1 146 rfl rfl
theorem tw_1_147 : (Jvm.Cond.code ({ cls := "ToolCrib$Gauge", name := "<init>", desc := "()V" } : Jvm.MethodName) prog_3_method_1_code (1 : Nat) (Option.none : Option Jvm.ClassFile.FieldType)) ∈ TB := tb_1 147 rfl rfl
theorem tw_1_148 : (Jvm.Cond.methodLink "ToolCrib$Gauge" (3 : Nat) ({ cls := "java/lang/Object", name := "<init>", desc := "()V" } : Jvm.MethodName)) ∈ TB := tb_1 148 rfl rfl
theorem tw_1_149 : (Jvm.Cond.fieldLink "ToolCrib$Gauge" (9 : Nat) "ToolCrib$Gauge" "since" "I") ∈ TB := tb_1 149 rfl rfl
theorem tw_1_150 : (Jvm.Cond.fieldLink "ToolCrib" (231 : Nat) "ToolCrib$Gauge" "since" "I") ∈ TB := tb_1 150 rfl rfl
theorem tw_1_151 : (Jvm.Cond.fieldLink "ToolCrib" (234 : Nat) "ToolCrib$Gauge" "doubt" "I") ∈ TB := tb_1 151 rfl rfl
theorem tw_1_152 : (Jvm.Cond.lays "ToolCrib$Gauge" "ToolCrib$Gauge" "since" "I") ∈ TB := tb_1 152 rfl rfl
theorem tw_1_154 : (Jvm.Cond.lays "ToolCrib$Gauge" "ToolCrib$Gauge" "doubt" "I") ∈ TB := tb_1 154 rfl rfl
theorem tw_1_157 : (Jvm.Cond.methodLink "ToolCrib" (58 : Nat) ({ cls := "java/util/ArrayList", name := "add", desc := "(Ljava/lang/Object;)Z" } : Jvm.MethodName)) ∈ TB := tb_1 157 rfl rfl
theorem tw_1_158 : (Jvm.Cond.instanceMethod ({ cls := "java/util/ArrayList", name := "add", desc := "(Ljava/lang/Object;)Z" } : Jvm.MethodName)) ∈ TB := tb_1 158 rfl rfl
theorem tw_1_159 : (Jvm.Cond.selects "java/util/ArrayList" ({ cls := "java/util/ArrayList", name := "add", desc := "(Ljava/lang/Object;)Z" } : Jvm.MethodName) ({ cls := "java/util/ArrayList", name := "add", desc := "(Ljava/lang/Object;)Z" } : Jvm.MethodName)) ∈ TB := tb_1 159 rfl rfl
theorem tw_1_160 : (Jvm.Cond.code ({ cls := "java/util/ArrayList", name := "add", desc := "(Ljava/lang/Object;)Z" } : Jvm.MethodName) prog_26_method_25_code (2 : Nat) (Option.some Jvm.ClassFile.FieldType.boolean)) ∈ TB := tb_1 160 rfl rfl
theorem tw_1_161 : (Jvm.Cond.methodLink "java/util/ArrayList" (131 : Nat) ({ cls := "java/util/ArrayList", name := "add", desc := "(Ljava/lang/Object;[Ljava/lang/Object;I)V" } : Jvm.MethodName)) ∈ TB := tb_1 161 rfl rfl
theorem tw_1_163 : (Jvm.Cond.instanceMethod ({ cls := "java/util/ArrayList", name := "add", desc := "(Ljava/lang/Object;[Ljava/lang/Object;I)V" } : Jvm.MethodName)) ∈ TB := tb_1 163 rfl rfl
theorem tw_1_164 : (Jvm.Cond.code ({ cls := "java/util/ArrayList", name := "add", desc := "(Ljava/lang/Object;[Ljava/lang/Object;I)V" } : Jvm.MethodName) prog_26_method_24_code (4 : Nat) (Option.none : Option Jvm.ClassFile.FieldType)) ∈ TB := tb_1 164 rfl rfl
theorem tw_1_165 : (Jvm.Cond.methodLink "java/util/ArrayList" (129 : Nat) ({ cls := "java/util/ArrayList", name := "grow", desc := "()[Ljava/lang/Object;" } : Jvm.MethodName)) ∈ TB := tb_1 165 rfl rfl
theorem tw_1_167 : (Jvm.Cond.instanceMethod ({ cls := "java/util/ArrayList", name := "grow", desc := "()[Ljava/lang/Object;" } : Jvm.MethodName)) ∈ TB := tb_1 167 rfl rfl
theorem tw_1_168 : (Jvm.Cond.code ({ cls := "java/util/ArrayList", name := "grow", desc := "()[Ljava/lang/Object;" } : Jvm.MethodName) prog_26_method_7_code (1 : Nat) (Option.some (Jvm.ClassFile.FieldType.array (Jvm.ClassFile.FieldType.object "java/lang/Object")))) ∈ TB := tb_1 168 rfl rfl
theorem tw_1_169 : (Jvm.Cond.methodLink "java/util/ArrayList" (69 : Nat) ({ cls := "java/util/ArrayList", name := "grow", desc := "(I)[Ljava/lang/Object;" } : Jvm.MethodName)) ∈ TB := tb_1 169 rfl rfl
theorem tw_1_171 : (Jvm.Cond.instanceMethod ({ cls := "java/util/ArrayList", name := "grow", desc := "(I)[Ljava/lang/Object;" } : Jvm.MethodName)) ∈ TB := tb_1 171 rfl rfl
theorem tw_1_172 : (Jvm.Cond.code ({ cls := "java/util/ArrayList", name := "grow", desc := "(I)[Ljava/lang/Object;" } : Jvm.MethodName) prog_26_method_6_code (4 : Nat) (Option.some (Jvm.ClassFile.FieldType.array (Jvm.ClassFile.FieldType.object "java/lang/Object")))) ∈ TB := tb_1 172 rfl rfl
theorem tw_1_173 : (Jvm.Cond.methodLink "java/util/ArrayList" (73 : Nat) ({ cls := "jdk/internal/util/ArraysSupport", name := "newLength", desc := "(III)I" } : Jvm.MethodName)) ∈ TB := tb_1 173 rfl rfl
theorem tw_1_174 : (Jvm.Cond.static ({ cls := "jdk/internal/util/ArraysSupport", name := "newLength", desc := "(III)I" } : Jvm.MethodName)) ∈ TB := tb_1 174 rfl rfl
theorem tw_1_175 : (Jvm.Cond.code ({ cls := "jdk/internal/util/ArraysSupport", name := "newLength", desc := "(III)I" } : Jvm.MethodName) prog_33_method_27_code (4 : Nat) (Option.some Jvm.ClassFile.FieldType.int)) ∈ TB := tb_1 175 rfl rfl
theorem tw_1_176 : (Jvm.Cond.methodLink "jdk/internal/util/ArraysSupport" (194 : Nat) ({ cls := "java/lang/Math", name := "max", desc := "(II)I" } : Jvm.MethodName)) ∈ TB := tb_1 176 rfl rfl
theorem tw_1_177 : (Jvm.Cond.static ({ cls := "java/lang/Math", name := "max", desc := "(II)I" } : Jvm.MethodName)) ∈ TB := tb_1 177 rfl rfl
theorem tw_1_178 : (Jvm.Cond.code ({ cls := "java/lang/Math", name := "max", desc := "(II)I" } : Jvm.MethodName) prog_19_method_65_code (2 : Nat) (Option.some Jvm.ClassFile.FieldType.int)) ∈ TB := tb_1 178 rfl rfl
theorem tw_1_179 : (Jvm.Cond.constant "jdk/internal/util/ArraysSupport" (200 : Nat) (2147483639 : Int32)) ∈ TB := tb_1 179 rfl rfl
theorem tw_1_180 : (Jvm.Cond.methodLink "jdk/internal/util/ArraysSupport" (201 : Nat) ({ cls := "jdk/internal/util/ArraysSupport", name := "hugeLength", desc := "(II)I" } : Jvm.MethodName)) ∈ TB := tb_1 180 rfl rfl
theorem tw_1_181 : (Jvm.Cond.static ({ cls := "jdk/internal/util/ArraysSupport", name := "hugeLength", desc := "(II)I" } : Jvm.MethodName)) ∈ TB := tb_1 181 rfl rfl
theorem tw_1_182 : (Jvm.Cond.code ({ cls := "jdk/internal/util/ArraysSupport", name := "hugeLength", desc := "(II)I" } : Jvm.MethodName) prog_33_method_28_code (3 : Nat) (Option.some Jvm.ClassFile.FieldType.int)) ∈ TB := tb_1 182 rfl rfl
theorem tw_1_183 : (Jvm.Cond.methodLink "java/util/ArrayList" (66 : Nat) ({ cls := "java/util/Arrays", name := "copyOf", desc := "([Ljava/lang/Object;I)[Ljava/lang/Object;" } : Jvm.MethodName)) ∈ TB := tb_1 183 rfl rfl
theorem tw_1_184 : (Jvm.Cond.static ({ cls := "java/util/Arrays", name := "copyOf", desc := "([Ljava/lang/Object;I)[Ljava/lang/Object;" } : Jvm.MethodName)) ∈ TB := tb_1 184 rfl rfl
theorem tw_1_185 : (Jvm.Cond.code ({ cls := "java/util/Arrays", name := "copyOf", desc := "([Ljava/lang/Object;I)[Ljava/lang/Object;" } : Jvm.MethodName) prog_27_method_119_code (2 : Nat) (Option.some (Jvm.ClassFile.FieldType.array (Jvm.ClassFile.FieldType.object "java/lang/Object")))) ∈ TB := tb_1 185 rfl rfl
theorem tw_1_186 : (Jvm.Cond.methodLink "java/util/Arrays" (86 : Nat) ({ cls := "java/lang/Object", name := "getClass", desc := "()Ljava/lang/Class;" } : Jvm.MethodName)) ∈ TB := tb_1 186 rfl rfl
theorem tw_1_187 : (Jvm.Cond.instanceMethod ({ cls := "java/lang/Object", name := "getClass", desc := "()Ljava/lang/Class;" } : Jvm.MethodName)) ∈ TB := tb_1 187 rfl rfl
theorem tw_1_188 : (Jvm.Cond.sameMethod "java/lang/Object" "java/lang/Object" "getClass" "()Ljava/lang/Class;") ∈ TB := tb_1 188 rfl rfl
theorem tw_1_189 : (Jvm.Cond.selects "ToolCrib" ({ cls := "java/lang/Object", name := "getClass", desc := "()Ljava/lang/Class;" } : Jvm.MethodName) ({ cls := "java/lang/Object", name := "getClass", desc := "()Ljava/lang/Class;" } : Jvm.MethodName)) ∈ TB := tb_1 189 rfl rfl
theorem tw_1_190 : (Jvm.Cond.selects "ToolCrib$Drawing" ({ cls := "java/lang/Object", name := "getClass", desc := "()Ljava/lang/Class;" } : Jvm.MethodName) ({ cls := "java/lang/Object", name := "getClass", desc := "()Ljava/lang/Class;" } : Jvm.MethodName)) ∈ TB := tb_1 190 rfl rfl
theorem tw_1_191 : (Jvm.Cond.selects "ToolCrib$Gauge" ({ cls := "java/lang/Object", name := "getClass", desc := "()Ljava/lang/Class;" } : Jvm.MethodName) ({ cls := "java/lang/Object", name := "getClass", desc := "()Ljava/lang/Class;" } : Jvm.MethodName)) ∈ TB := tb_1 191 rfl rfl
theorem tw_1_192 : (Jvm.Cond.selects "ToolCrib$Pallet" ({ cls := "java/lang/Object", name := "getClass", desc := "()Ljava/lang/Class;" } : Jvm.MethodName) ({ cls := "java/lang/Object", name := "getClass", desc := "()Ljava/lang/Class;" } : Jvm.MethodName)) ∈ TB := tb_1 192 rfl rfl
theorem tw_1_193 : (Jvm.Cond.selects "ToolCrib$Paper" ({ cls := "java/lang/Object", name := "getClass", desc := "()Ljava/lang/Class;" } : Jvm.MethodName) ({ cls := "java/lang/Object", name := "getClass", desc := "()Ljava/lang/Class;" } : Jvm.MethodName)) ∈ TB := tb_1 193 rfl rfl
theorem tw_1_194 : (Jvm.Cond.selects "ToolCrib$Program" ({ cls := "java/lang/Object", name := "getClass", desc := "()Ljava/lang/Class;" } : Jvm.MethodName) ({ cls := "java/lang/Object", name := "getClass", desc := "()Ljava/lang/Class;" } : Jvm.MethodName)) ∈ TB := tb_1 194 rfl rfl
theorem tw_1_195 : (Jvm.Cond.selects "ToolCrib$Tool" ({ cls := "java/lang/Object", name := "getClass", desc := "()Ljava/lang/Class;" } : Jvm.MethodName) ({ cls := "java/lang/Object", name := "getClass", desc := "()Ljava/lang/Class;" } : Jvm.MethodName)) ∈ TB := tb_1 195 rfl rfl
theorem tw_1_196 : (Jvm.Cond.selects "ToolCrib$Trial" ({ cls := "java/lang/Object", name := "getClass", desc := "()Ljava/lang/Class;" } : Jvm.MethodName) ({ cls := "java/lang/Object", name := "getClass", desc := "()Ljava/lang/Class;" } : Jvm.MethodName)) ∈ TB := tb_1 196 rfl rfl
theorem tw_1_197 : (Jvm.Cond.selects "ToolCrib$Walk" ({ cls := "java/lang/Object", name := "getClass", desc := "()Ljava/lang/Class;" } : Jvm.MethodName) ({ cls := "java/lang/Object", name := "getClass", desc := "()Ljava/lang/Class;" } : Jvm.MethodName)) ∈ TB := tb_1 197 rfl rfl
theorem tw_1_198 : (Jvm.Cond.selects "java/lang/IllegalArgumentException" ({ cls := "java/lang/Object", name := "getClass", desc := "()Ljava/lang/Class;" } : Jvm.MethodName) ({ cls := "java/lang/Object", name := "getClass", desc := "()Ljava/lang/Class;" } : Jvm.MethodName)) ∈ TB := tb_1 198 rfl rfl
theorem tw_1_199 : (Jvm.Cond.selects "java/lang/IllegalStateException" ({ cls := "java/lang/Object", name := "getClass", desc := "()Ljava/lang/Class;" } : Jvm.MethodName) ({ cls := "java/lang/Object", name := "getClass", desc := "()Ljava/lang/Class;" } : Jvm.MethodName)) ∈ TB := tb_1 199 rfl rfl
theorem tw_1_200 : (Jvm.Cond.selects "java/lang/IndexOutOfBoundsException" ({ cls := "java/lang/Object", name := "getClass", desc := "()Ljava/lang/Class;" } : Jvm.MethodName) ({ cls := "java/lang/Object", name := "getClass", desc := "()Ljava/lang/Class;" } : Jvm.MethodName)) ∈ TB := tb_1 200 rfl rfl
theorem tw_1_201 : (Jvm.Cond.selects "java/util/ArrayList" ({ cls := "java/lang/Object", name := "getClass", desc := "()Ljava/lang/Class;" } : Jvm.MethodName) ({ cls := "java/lang/Object", name := "getClass", desc := "()Ljava/lang/Class;" } : Jvm.MethodName)) ∈ TB := tb_1 201 rfl rfl
theorem tw_1_202 : (Jvm.Cond.native ({ cls := "java/lang/Object", name := "getClass", desc := "()Ljava/lang/Class;" } : Jvm.MethodName)) ∈ TB := tb_1 202 rfl rfl
theorem tw_1_203 : (Jvm.Cond.methodLink "java/util/Arrays" (300 : Nat) ({ cls := "java/util/Arrays", name := "copyOf", desc := "([Ljava/lang/Object;ILjava/lang/Class;)[Ljava/lang/Object;" } : Jvm.MethodName)) ∈ TB := tb_1 203 rfl rfl
theorem tw_1_204 : (Jvm.Cond.static ({ cls := "java/util/Arrays", name := "copyOf", desc := "([Ljava/lang/Object;ILjava/lang/Class;)[Ljava/lang/Object;" } : Jvm.MethodName)) ∈ TB := tb_1 204 rfl rfl
theorem tw_1_205 : (Jvm.Cond.code ({ cls := "java/util/Arrays", name := "copyOf", desc := "([Ljava/lang/Object;ILjava/lang/Class;)[Ljava/lang/Object;" } : Jvm.MethodName) prog_27_method_120_code (4 : Nat) (Option.some (Jvm.ClassFile.FieldType.array (Jvm.ClassFile.FieldType.object "java/lang/Object")))) ∈ TB := tb_1 205 rfl rfl
theorem tw_1_206 : (Jvm.Cond.classLink "java/util/Arrays" (110 : Nat) "[Ljava/lang/Object;") ∈ TB := tb_1 206 rfl rfl
theorem tw_1_208 : (Jvm.Cond.classLink "java/util/Arrays" (2 : Nat) "java/lang/Object") ∈ TB := tb_1 208 rfl rfl
theorem tw_1_209 : (Jvm.Cond.methodLink "java/util/Arrays" (304 : Nat) ({ cls := "java/lang/Math", name := "min", desc := "(II)I" } : Jvm.MethodName)) ∈ TB := tb_1 209 rfl rfl
theorem tw_1_210 : (Jvm.Cond.static ({ cls := "java/lang/Math", name := "min", desc := "(II)I" } : Jvm.MethodName)) ∈ TB := tb_1 210 rfl rfl
theorem tw_1_211 : (Jvm.Cond.code ({ cls := "java/lang/Math", name := "min", desc := "(II)I" } : Jvm.MethodName) prog_19_method_69_code (2 : Nat) (Option.some Jvm.ClassFile.FieldType.int)) ∈ TB := tb_1 211 rfl rfl
theorem tw_1_212 : (Jvm.Cond.methodLink "java/util/Arrays" (150 : Nat) ({ cls := "java/lang/System", name := "arraycopy", desc := "(Ljava/lang/Object;ILjava/lang/Object;II)V" } : Jvm.MethodName)) ∈ TB := tb_1 212 rfl rfl
theorem tw_1_213 : (Jvm.Cond.static ({ cls := "java/lang/System", name := "arraycopy", desc := "(Ljava/lang/Object;ILjava/lang/Object;II)V" } : Jvm.MethodName)) ∈ TB := tb_1 213 rfl rfl
theorem tw_1_214 : (Jvm.Cond.native ({ cls := "java/lang/System", name := "arraycopy", desc := "(Ljava/lang/Object;ILjava/lang/Object;II)V" } : Jvm.MethodName)) ∈ TB := tb_1 214 rfl rfl
theorem tw_1_215 : (Jvm.Cond.methodLink "java/util/ArrayList" (79 : Nat) ({ cls := "java/lang/Math", name := "max", desc := "(II)I" } : Jvm.MethodName)) ∈ TB := tb_1 215 rfl rfl
theorem tw_1_216 : (Jvm.Cond.classLink "java/util/ArrayList" (7 : Nat) "java/lang/Object") ∈ TB := tb_1 216 rfl rfl
theorem tw_1_217 : (Jvm.Cond.fieldLink "ToolCrib" (12 : Nat) "ToolCrib" "tools" "Ljava/util/ArrayList;") ∈ TB := tb_1 217 rfl rfl
theorem tw_1_218 : (Jvm.Cond.fieldLink "ToolCrib" (16 : Nat) "ToolCrib" "pallets" "Ljava/util/ArrayList;") ∈ TB := tb_1 218 rfl rfl
theorem tw_1_219 : (Jvm.Cond.fieldLink "ToolCrib" (19 : Nat) "ToolCrib" "queue" "Ljava/util/ArrayList;") ∈ TB := tb_1 219 rfl rfl
theorem tw_1_220 : (Jvm.Cond.fieldLink "ToolCrib" (22 : Nat) "ToolCrib" "gauges" "Ljava/util/ArrayList;") ∈ TB := tb_1 220 rfl rfl
theorem tw_1_221 : (Jvm.Cond.fieldLink "ToolCrib" (25 : Nat) "ToolCrib" "drawings" "Ljava/util/ArrayList;") ∈ TB := tb_1 221 rfl rfl
theorem tw_1_222 : (Jvm.Cond.fieldLink "ToolCrib" (28 : Nat) "ToolCrib" "papers" "Ljava/util/ArrayList;") ∈ TB := tb_1 222 rfl rfl
theorem tw_1_223 : (Jvm.Cond.fieldLink "ToolCrib" (31 : Nat) "ToolCrib" "mapErrors" "[I") ∈ TB := tb_1 223 rfl rfl
theorem tw_1_224 : (Jvm.Cond.fieldLink "ToolCrib" (35 : Nat) "ToolCrib" "errorParts" "[I") ∈ TB := tb_1 224 rfl rfl
theorem tw_1_225 : (Jvm.Cond.fieldLink "ToolCrib" (38 : Nat) "ToolCrib" "livesLeft" "[I") ∈ TB := tb_1 225 rfl rfl
theorem tw_1_226 : (Jvm.Cond.fieldLink "ToolCrib" (44 : Nat) "ToolCrib" "walk" "LToolCrib$Walk;") ∈ TB := tb_1 226 rfl rfl
theorem tw_1_227 : (Jvm.Cond.fieldLink "ToolCrib" (51 : Nat) "ToolCrib" "trial" "LToolCrib$Trial;") ∈ TB := tb_1 227 rfl rfl
theorem tw_1_228 : (Jvm.Cond.fieldLink "ToolCrib" (216 : Nat) "ToolCrib" "now" "I") ∈ TB := tb_1 228 rfl rfl
theorem tw_1_229 : (Jvm.Cond.fieldLink "ToolCrib" (222 : Nat) "ToolCrib" "heat" "I") ∈ TB := tb_1 229 rfl rfl
theorem tw_1_230 : (Jvm.Cond.laysFinal "ToolCrib" "ToolCrib" "tools" "Ljava/util/ArrayList;") ∈ TB := tb_1 230 rfl rfl
theorem tw_1_232 : (Jvm.Cond.laysFinal "ToolCrib" "ToolCrib" "pallets" "Ljava/util/ArrayList;") ∈ TB := tb_1 232 rfl rfl
theorem tw_1_234 : (Jvm.Cond.laysFinal "ToolCrib" "ToolCrib" "queue" "Ljava/util/ArrayList;") ∈ TB := tb_1 234 rfl rfl
theorem tw_1_236 : (Jvm.Cond.laysFinal "ToolCrib" "ToolCrib" "gauges" "Ljava/util/ArrayList;") ∈ TB := tb_1 236 rfl rfl
theorem tw_1_238 : (Jvm.Cond.laysFinal "ToolCrib" "ToolCrib" "drawings" "Ljava/util/ArrayList;") ∈ TB := tb_1 238 rfl rfl
theorem tw_2_0 : (Jvm.Cond.laysFinal "ToolCrib" "ToolCrib" "papers" "Ljava/util/ArrayList;") ∈ TB := tb_2 0 rfl rfl
theorem tw_2_2 : (Jvm.Cond.laysFinal "ToolCrib" "ToolCrib" "mapErrors" "[I") ∈ TB := tb_2 2 rfl rfl
theorem tw_2_4 : (Jvm.Cond.laysFinal "ToolCrib" "ToolCrib" "errorParts" "[I") ∈ TB := tb_2 4 rfl rfl
theorem tw_2_6 : (Jvm.Cond.laysFinal "ToolCrib" "ToolCrib" "livesLeft" "[I") ∈ TB := tb_2 6 rfl rfl
theorem tw_2_8 : (Jvm.Cond.laysFinal "ToolCrib" "ToolCrib" "walk" "LToolCrib$Walk;") ∈ TB := tb_2 8 rfl rfl
theorem tw_2_10 : (Jvm.Cond.laysFinal "ToolCrib" "ToolCrib" "trial" "LToolCrib$Trial;") ∈ TB := tb_2 10 rfl rfl
theorem tw_2_12 : (Jvm.Cond.lays "ToolCrib" "ToolCrib" "now" "I") ∈ TB := tb_2 12 rfl rfl
theorem tw_2_14 : (Jvm.Cond.lays "ToolCrib" "ToolCrib" "heat" "I") ∈ TB := tb_2 14 rfl rfl
theorem tw_2_17 : (Jvm.Cond.methodLink "ToolCribLaw" (172 : Nat) ({ cls := "ToolCribLaw", name := "isBegun", desc := "(LToolCrib;[I[J[J[I[I[I[I)Z" } : Jvm.MethodName)) ∈ TB := tb_2 17 rfl rfl
theorem tw_2_18 : (Jvm.Cond.static ({ cls := "ToolCribLaw", name := "isBegun", desc := "(LToolCrib;[I[J[J[I[I[I[I)Z" } : Jvm.MethodName)) ∈ TB := tb_2 18 rfl rfl
theorem tw_2_19 : (Jvm.Cond.code ({ cls := "ToolCribLaw", name := "isBegun", desc := "(LToolCrib;[I[J[J[I[I[I[I)Z" } : Jvm.MethodName) method_25_code (12 : Nat) (Option.some Jvm.ClassFile.FieldType.boolean)) ∈ TB := tb_2 19 rfl rfl
theorem tw_2_20 : (Jvm.Cond.methodLink "ToolCribLaw" (146 : Nat) ({ cls := "ToolCrib", name := "drawing", desc := "()I" } : Jvm.MethodName)) ∈ TB := tb_2 20 rfl rfl
theorem tw_2_21 : (Jvm.Cond.instanceMethod ({ cls := "ToolCrib", name := "drawing", desc := "()I" } : Jvm.MethodName)) ∈ TB := tb_2 21 rfl rfl
theorem tw_2_22 : (Jvm.Cond.selects "ToolCrib" ({ cls := "ToolCrib", name := "drawing", desc := "()I" } : Jvm.MethodName) ({ cls := "ToolCrib", name := "drawing", desc := "()I" } : Jvm.MethodName)) ∈ TB := tb_2 22 rfl rfl
theorem tw_2_23 : (Jvm.Cond.code ({ cls := "ToolCrib", name := "drawing", desc := "()I" } : Jvm.MethodName) prog_1_method_17_code (1 : Nat) (Option.some Jvm.ClassFile.FieldType.int)) ∈ TB := tb_2 23 rfl rfl
theorem tw_2_24 : (Jvm.Cond.methodLink "ToolCrib" (65 : Nat) ({ cls := "java/util/ArrayList", name := "size", desc := "()I" } : Jvm.MethodName)) ∈ TB := tb_2 24 rfl rfl
theorem tw_2_25 : (Jvm.Cond.instanceMethod ({ cls := "java/util/ArrayList", name := "size", desc := "()I" } : Jvm.MethodName)) ∈ TB := tb_2 25 rfl rfl
theorem tw_2_26 : (Jvm.Cond.selects "java/util/ArrayList" ({ cls := "java/util/ArrayList", name := "size", desc := "()I" } : Jvm.MethodName) ({ cls := "java/util/ArrayList", name := "size", desc := "()I" } : Jvm.MethodName)) ∈ TB := tb_2 26 rfl rfl
theorem tw_2_27 : (Jvm.Cond.code ({ cls := "java/util/ArrayList", name := "size", desc := "()I" } : Jvm.MethodName) prog_26_method_8_code (1 : Nat) (Option.some Jvm.ClassFile.FieldType.int)) ∈ TB := tb_2 27 rfl rfl
theorem tw_2_28 : (Jvm.Cond.classLink "ToolCrib" (69 : Nat) "java/lang/IllegalStateException") ∈ TB := tb_2 28 rfl rfl
theorem tw_2_29 : (Jvm.Cond.instantiable "java/lang/IllegalStateException" (6 : Nat)) ∈ TB := tb_2 29 rfl rfl
theorem tw_2_37 : (Jvm.Cond.selects "java/lang/IllegalStateException" ({ cls := "java/lang/Throwable", name := "fillInStackTrace", desc := "(I)Ljava/lang/Throwable;" } : Jvm.MethodName) ({ cls := "java/lang/Throwable", name := "fillInStackTrace", desc := "(I)Ljava/lang/Throwable;" } : Jvm.MethodName)) ∈ TB := tb_2 37 rfl rfl
theorem tw_2_38 : (Jvm.Cond.selects "java/lang/IllegalStateException" ({ cls := "java/lang/Throwable", name := "fillInStackTrace", desc := "()Ljava/lang/Throwable;" } : Jvm.MethodName) ({ cls := "java/lang/Throwable", name := "fillInStackTrace", desc := "()Ljava/lang/Throwable;" } : Jvm.MethodName)) ∈ TB := tb_2 38 rfl rfl
theorem tw_2_39 : (Jvm.Cond.lays "java/lang/IllegalStateException" "java/lang/Throwable" "cause" "Ljava/lang/Throwable;") ∈ TB := tb_2 39 rfl rfl
theorem tw_2_40 : (Jvm.Cond.lays "java/lang/Throwable" "java/lang/Throwable" "cause" "Ljava/lang/Throwable;") ∈ TB := tb_2 40 rfl rfl
theorem tw_2_41 : (Jvm.Cond.lays "java/lang/IllegalStateException" "java/lang/Throwable" "stackTrace" "[Ljava/lang/StackTraceElement;") ∈ TB := tb_2 41 rfl rfl
theorem tw_2_42 : (Jvm.Cond.lays "java/lang/Throwable" "java/lang/Throwable" "stackTrace" "[Ljava/lang/StackTraceElement;") ∈ TB := tb_2 42 rfl rfl
theorem tw_2_43 : (Jvm.Cond.lays "java/lang/IllegalStateException" "java/lang/Throwable" "suppressedExceptions" "Ljava/util/List;") ∈ TB := tb_2 43 rfl rfl
theorem tw_2_44 : (Jvm.Cond.lays "java/lang/Throwable" "java/lang/Throwable" "suppressedExceptions" "Ljava/util/List;") ∈ TB := tb_2 44 rfl rfl
theorem tw_2_45 : (Jvm.Cond.lays "java/lang/IllegalStateException" "java/lang/Throwable" "detailMessage" "Ljava/lang/String;") ∈ TB := tb_2 45 rfl rfl
theorem tw_2_46 : (Jvm.Cond.lays "java/lang/Throwable" "java/lang/Throwable" "detailMessage" "Ljava/lang/String;") ∈ TB := tb_2 46 rfl rfl
theorem tw_2_47 : (Jvm.Cond.lays "java/lang/IllegalStateException" "java/lang/Throwable" "backtrace" "Ljava/lang/Object;") ∈ TB := tb_2 47 rfl rfl
theorem tw_2_48 : (Jvm.Cond.lays "java/lang/Throwable" "java/lang/Throwable" "backtrace" "Ljava/lang/Object;") ∈ TB := tb_2 48 rfl rfl
theorem tw_2_49 : (Jvm.Cond.fieldLink "java/lang/Throwable" (198 : Nat) "java/lang/Throwable" "backtrace" "Ljava/lang/Object;") ∈ TB := tb_2 49 rfl rfl
theorem tw_2_51 : (Jvm.Cond.instanceMethod ({ cls := "java/lang/Throwable", name := "<init>", desc := "()V" } : Jvm.MethodName)) ∈ TB := tb_2 51 rfl rfl
theorem tw_2_52 : (Jvm.Cond.code ({ cls := "java/lang/Throwable", name := "<init>", desc := "()V" } : Jvm.MethodName) prog_23_method_1_code (1 : Nat) (Option.none : Option Jvm.ClassFile.FieldType)) ∈ TB := tb_2 52 rfl rfl
theorem tw_2_53 : (Jvm.Cond.methodLink "java/lang/Throwable" (1 : Nat) ({ cls := "java/lang/Object", name := "<init>", desc := "()V" } : Jvm.MethodName)) ∈ TB := tb_2 53 rfl rfl
theorem tw_2_54 : (Jvm.Cond.fieldLink "java/lang/Throwable" (13 : Nat) "java/lang/Throwable" "UNASSIGNED_STACK" "[Ljava/lang/StackTraceElement;") ∈ TB := tb_2 54 rfl rfl
theorem tw_2_56 : (Jvm.Cond.fieldLink "java/lang/Throwable" (20 : Nat) "java/lang/Throwable" "SUPPRESSED_SENTINEL" "Ljava/util/List;") ∈ TB := tb_2 56 rfl rfl
theorem tw_2_58 : (Jvm.Cond.methodLink "java/lang/Throwable" (27 : Nat) ({ cls := "java/lang/Throwable", name := "fillInStackTrace", desc := "()Ljava/lang/Throwable;" } : Jvm.MethodName)) ∈ TB := tb_2 58 rfl rfl
theorem tw_2_59 : (Jvm.Cond.instanceMethod ({ cls := "java/lang/Throwable", name := "fillInStackTrace", desc := "()Ljava/lang/Throwable;" } : Jvm.MethodName)) ∈ TB := tb_2 59 rfl rfl
theorem tw_2_60 : (Jvm.Cond.sameMethod "java/lang/Throwable" "java/lang/Throwable" "fillInStackTrace" "()Ljava/lang/Throwable;") ∈ TB := tb_2 60 rfl rfl
theorem tw_2_61 : (Jvm.Cond.selects "java/lang/IllegalArgumentException" ({ cls := "java/lang/Throwable", name := "fillInStackTrace", desc := "()Ljava/lang/Throwable;" } : Jvm.MethodName) ({ cls := "java/lang/Throwable", name := "fillInStackTrace", desc := "()Ljava/lang/Throwable;" } : Jvm.MethodName)) ∈ TB := tb_2 61 rfl rfl
theorem tw_2_62 : (Jvm.Cond.selects "java/lang/IndexOutOfBoundsException" ({ cls := "java/lang/Throwable", name := "fillInStackTrace", desc := "()Ljava/lang/Throwable;" } : Jvm.MethodName) ({ cls := "java/lang/Throwable", name := "fillInStackTrace", desc := "()Ljava/lang/Throwable;" } : Jvm.MethodName)) ∈ TB := tb_2 62 rfl rfl
theorem tw_2_64 : (Jvm.Cond.methodLink "java/lang/Throwable" (202 : Nat) ({ cls := "java/lang/Throwable", name := "fillInStackTrace", desc := "(I)Ljava/lang/Throwable;" } : Jvm.MethodName)) ∈ TB := tb_2 64 rfl rfl
theorem tw_2_66 : (Jvm.Cond.instanceMethod ({ cls := "java/lang/Throwable", name := "fillInStackTrace", desc := "(I)Ljava/lang/Throwable;" } : Jvm.MethodName)) ∈ TB := tb_2 66 rfl rfl
theorem tw_2_67 : (Jvm.Cond.instantiable "java/lang/Throwable" (6 : Nat)) ∈ TB := tb_2 67 rfl rfl
theorem tw_2_68 : (Jvm.Cond.native ({ cls := "java/lang/Throwable", name := "fillInStackTrace", desc := "(I)Ljava/lang/Throwable;" } : Jvm.MethodName)) ∈ TB := tb_2 68 rfl rfl
theorem tw_2_70 : (Jvm.Cond.methodLink "ToolCrib" (73 : Nat) ({ cls := "java/lang/IllegalStateException", name := "<init>", desc := "(Ljava/lang/String;)V" } : Jvm.MethodName)) ∈ TB := tb_2 70 rfl rfl
theorem tw_2_71 : (Jvm.Cond.instanceMethod ({ cls := "java/lang/IllegalStateException", name := "<init>", desc := "(Ljava/lang/String;)V" } : Jvm.MethodName)) ∈ TB := tb_2 71 rfl rfl
theorem tw_2_72 : (Jvm.Cond.code ({ cls := "java/lang/IllegalStateException", name := "<init>", desc := "(Ljava/lang/String;)V" } : Jvm.MethodName) prog_16_method_2_code (2 : Nat) (Option.none : Option Jvm.ClassFile.FieldType)) ∈ TB := tb_2 72 rfl rfl
theorem tw_2_73 : (Jvm.Cond.methodLink "java/lang/IllegalStateException" (7 : Nat) ({ cls := "java/lang/RuntimeException", name := "<init>", desc := "(Ljava/lang/String;)V" } : Jvm.MethodName)) ∈ TB := tb_2 73 rfl rfl
theorem tw_2_74 : (Jvm.Cond.instanceMethod ({ cls := "java/lang/RuntimeException", name := "<init>", desc := "(Ljava/lang/String;)V" } : Jvm.MethodName)) ∈ TB := tb_2 74 rfl rfl
theorem tw_2_75 : (Jvm.Cond.code ({ cls := "java/lang/RuntimeException", name := "<init>", desc := "(Ljava/lang/String;)V" } : Jvm.MethodName) prog_20_method_2_code (2 : Nat) (Option.none : Option Jvm.ClassFile.FieldType)) ∈ TB := tb_2 75 rfl rfl
theorem tw_2_76 : (Jvm.Cond.methodLink "java/lang/RuntimeException" (7 : Nat) ({ cls := "java/lang/Exception", name := "<init>", desc := "(Ljava/lang/String;)V" } : Jvm.MethodName)) ∈ TB := tb_2 76 rfl rfl
theorem tw_2_77 : (Jvm.Cond.instanceMethod ({ cls := "java/lang/Exception", name := "<init>", desc := "(Ljava/lang/String;)V" } : Jvm.MethodName)) ∈ TB := tb_2 77 rfl rfl
theorem tw_2_78 : (Jvm.Cond.code ({ cls := "java/lang/Exception", name := "<init>", desc := "(Ljava/lang/String;)V" } : Jvm.MethodName) prog_14_method_2_code (2 : Nat) (Option.none : Option Jvm.ClassFile.FieldType)) ∈ TB := tb_2 78 rfl rfl
theorem tw_2_79 : (Jvm.Cond.methodLink "java/lang/Exception" (7 : Nat) ({ cls := "java/lang/Throwable", name := "<init>", desc := "(Ljava/lang/String;)V" } : Jvm.MethodName)) ∈ TB := tb_2 79 rfl rfl
theorem tw_2_80 : (Jvm.Cond.instanceMethod ({ cls := "java/lang/Throwable", name := "<init>", desc := "(Ljava/lang/String;)V" } : Jvm.MethodName)) ∈ TB := tb_2 80 rfl rfl
theorem tw_2_81 : (Jvm.Cond.code ({ cls := "java/lang/Throwable", name := "<init>", desc := "(Ljava/lang/String;)V" } : Jvm.MethodName) prog_23_method_2_code (2 : Nat) (Option.none : Option Jvm.ClassFile.FieldType)) ∈ TB := tb_2 81 rfl rfl
theorem tw_2_82 : (Jvm.Cond.fieldLink "java/lang/Throwable" (198 : Nat) "java/lang/Throwable" "backtrace" "Ljava/lang/Object;") ∈ TB := tb_2 82 rfl rfl
theorem tw_2_83 : (Jvm.Cond.fieldLink "java/lang/Throwable" (31 : Nat) "java/lang/Throwable" "detailMessage" "Ljava/lang/String;") ∈ TB := tb_2 83 rfl rfl
theorem tw_2_84 : (Jvm.Cond.fieldLink "java/lang/Throwable" (7 : Nat) "java/lang/Throwable" "cause" "Ljava/lang/Throwable;") ∈ TB := tb_2 84 rfl rfl
theorem tw_2_85 : (Jvm.Cond.fieldLink "java/lang/Throwable" (17 : Nat) "java/lang/Throwable" "stackTrace" "[Ljava/lang/StackTraceElement;") ∈ TB := tb_2 85 rfl rfl
theorem tw_2_86 : (Jvm.Cond.fieldLink "java/lang/Throwable" (24 : Nat) "java/lang/Throwable" "suppressedExceptions" "Ljava/util/List;") ∈ TB := tb_2 86 rfl rfl
theorem tw_2_91 : (Jvm.Cond.lays "java/lang/IllegalStateException" "java/lang/Throwable" "depth" "I") ∈ TB := tb_2 91 rfl rfl
theorem tw_2_95 : (Jvm.Cond.arrayClass Jvm.ClassFile.FieldType.long) ∈ TB := tb_2 95 rfl rfl
theorem tw_2_96 : (Jvm.Cond.arrayClass Jvm.ClassFile.FieldType.byte) ∈ TB := tb_2 96 rfl rfl
theorem tw_2_97 : (Jvm.Cond.classLink "ToolCrib" (238 : Nat) "ToolCrib$Drawing") ∈ TB := tb_2 97 rfl rfl
theorem tw_2_98 : (Jvm.Cond.instantiable "ToolCrib$Drawing" (6 : Nat)) ∈ TB := tb_2 98 rfl rfl
theorem tw_2_100 : (Jvm.Cond.instanceMethod ({ cls := "ToolCrib$Drawing", name := "<init>", desc := "()V" } : Jvm.MethodName)) ∈ TB := tb_2 100 rfl rfl
theorem tw_2_101 : (Jvm.Cond.code ({ cls := "ToolCrib$Drawing", name := "<init>", desc := "()V" } : Jvm.MethodName) prog_2_method_1_code (1 : Nat) (Option.none : Option Jvm.ClassFile.FieldType)) ∈ TB := tb_2 101 rfl rfl
theorem tw_2_102 : (Jvm.Cond.methodLink "ToolCrib$Drawing" (3 : Nat) ({ cls := "java/lang/Object", name := "<init>", desc := "()V" } : Jvm.MethodName)) ∈ TB := tb_2 102 rfl rfl
theorem tw_2_103 : (Jvm.Cond.fieldLink "ToolCrib$Drawing" (9 : Nat) "ToolCrib$Drawing" "cells" "[I") ∈ TB := tb_2 103 rfl rfl
theorem tw_2_104 : (Jvm.Cond.fieldLink "ToolCrib" (279 : Nat) "ToolCrib$Drawing" "cells" "[I") ∈ TB := tb_2 104 rfl rfl
theorem tw_2_105 : (Jvm.Cond.fieldLink "ToolCrib$Drawing" (15 : Nat) "ToolCrib$Drawing" "heights" "[I") ∈ TB := tb_2 105 rfl rfl
theorem tw_2_106 : (Jvm.Cond.fieldLink "ToolCrib" (288 : Nat) "ToolCrib$Drawing" "heights" "[I") ∈ TB := tb_2 106 rfl rfl
theorem tw_2_107 : (Jvm.Cond.fieldLink "ToolCrib$Drawing" (18 : Nat) "ToolCrib$Drawing" "tolerances" "[I") ∈ TB := tb_2 107 rfl rfl
theorem tw_2_108 : (Jvm.Cond.fieldLink "ToolCrib$Drawing" (21 : Nat) "ToolCrib$Drawing" "more" "[I") ∈ TB := tb_2 108 rfl rfl
theorem tw_2_109 : (Jvm.Cond.fieldLink "ToolCrib" (259 : Nat) "ToolCrib$Drawing" "more" "[I") ∈ TB := tb_2 109 rfl rfl
theorem tw_2_110 : (Jvm.Cond.fieldLink "ToolCrib$Drawing" (24 : Nat) "ToolCrib$Drawing" "papersLeft" "[I") ∈ TB := tb_2 110 rfl rfl
theorem tw_2_111 : (Jvm.Cond.fieldLink "ToolCrib" (262 : Nat) "ToolCrib$Drawing" "papersLeft" "[I") ∈ TB := tb_2 111 rfl rfl
theorem tw_2_112 : (Jvm.Cond.fieldLink "ToolCrib$Drawing" (27 : Nat) "ToolCrib$Drawing" "size" "I") ∈ TB := tb_2 112 rfl rfl
theorem tw_2_113 : (Jvm.Cond.fieldLink "ToolCrib" (247 : Nat) "ToolCrib$Drawing" "size" "I") ∈ TB := tb_2 113 rfl rfl
theorem tw_2_114 : (Jvm.Cond.laysFinal "ToolCrib$Drawing" "ToolCrib$Drawing" "cells" "[I") ∈ TB := tb_2 114 rfl rfl
theorem tw_2_116 : (Jvm.Cond.laysFinal "ToolCrib$Drawing" "ToolCrib$Drawing" "heights" "[I") ∈ TB := tb_2 116 rfl rfl
theorem tw_2_118 : (Jvm.Cond.laysFinal "ToolCrib$Drawing" "ToolCrib$Drawing" "tolerances" "[I") ∈ TB := tb_2 118 rfl rfl
theorem tw_2_120 : (Jvm.Cond.laysFinal "ToolCrib$Drawing" "ToolCrib$Drawing" "more" "[I") ∈ TB := tb_2 120 rfl rfl
theorem tw_2_122 : (Jvm.Cond.laysFinal "ToolCrib$Drawing" "ToolCrib$Drawing" "papersLeft" "[I") ∈ TB := tb_2 122 rfl rfl
theorem tw_2_124 : (Jvm.Cond.lays "ToolCrib$Drawing" "ToolCrib$Drawing" "size" "I") ∈ TB := tb_2 124 rfl rfl
theorem tw_2_127 : (Jvm.Cond.methodLink "ToolCribLaw" (149 : Nat) ({ cls := "ToolCribLaw", name := "from", desc := "([III)I" } : Jvm.MethodName)) ∈ TB := tb_2 127 rfl rfl
theorem tw_2_128 : (Jvm.Cond.static ({ cls := "ToolCribLaw", name := "from", desc := "([III)I" } : Jvm.MethodName)) ∈ TB := tb_2 128 rfl rfl
theorem tw_2_129 : (Jvm.Cond.code ({ cls := "ToolCribLaw", name := "from", desc := "([III)I" } : Jvm.MethodName) method_2_code (4 : Nat) (Option.some Jvm.ClassFile.FieldType.int)) ∈ TB := tb_2 129 rfl rfl
theorem tw_2_130 : (Jvm.Cond.constant "ToolCribLaw" (7 : Nat) (433494 : Int32)) ∈ TB := tb_2 130 rfl rfl
theorem tw_2_131 : (Jvm.Cond.constant "ToolCribLaw" (8 : Nat) (2147483647 : Int32)) ∈ TB := tb_2 131 rfl rfl
theorem tw_2_132 : (Jvm.Cond.methodLink "ToolCribLaw" (153 : Nat) ({ cls := "ToolCrib", name := "pallet", desc := "(I)I" } : Jvm.MethodName)) ∈ TB := tb_2 132 rfl rfl
theorem tw_2_133 : (Jvm.Cond.instanceMethod ({ cls := "ToolCrib", name := "pallet", desc := "(I)I" } : Jvm.MethodName)) ∈ TB := tb_2 133 rfl rfl
theorem tw_2_134 : (Jvm.Cond.selects "ToolCrib" ({ cls := "ToolCrib", name := "pallet", desc := "(I)I" } : Jvm.MethodName) ({ cls := "ToolCrib", name := "pallet", desc := "(I)I" } : Jvm.MethodName)) ∈ TB := tb_2 134 rfl rfl
theorem tw_2_135 : (Jvm.Cond.code ({ cls := "ToolCrib", name := "pallet", desc := "(I)I" } : Jvm.MethodName) prog_1_method_7_code (2 : Nat) (Option.some Jvm.ClassFile.FieldType.int)) ∈ TB := tb_2 135 rfl rfl
theorem tw_2_136 : (Jvm.Cond.methodLink "ToolCrib" (105 : Nat) ({ cls := "ToolCrib", name := "isWithin", desc := "(III)Z" } : Jvm.MethodName)) ∈ TB := tb_2 136 rfl rfl
theorem tw_2_137 : (Jvm.Cond.static ({ cls := "ToolCrib", name := "isWithin", desc := "(III)Z" } : Jvm.MethodName)) ∈ TB := tb_2 137 rfl rfl
theorem tw_2_138 : (Jvm.Cond.code ({ cls := "ToolCrib", name := "isWithin", desc := "(III)Z" } : Jvm.MethodName) prog_1_method_36_code (3 : Nat) (Option.some Jvm.ClassFile.FieldType.boolean)) ∈ TB := tb_2 138 rfl rfl
theorem tw_2_139 : (Jvm.Cond.classLink "ToolCrib" (87 : Nat) "java/lang/IllegalArgumentException") ∈ TB := tb_2 139 rfl rfl
theorem tw_2_140 : (Jvm.Cond.instantiable "java/lang/IllegalArgumentException" (6 : Nat)) ∈ TB := tb_2 140 rfl rfl
theorem tw_2_142 : (Jvm.Cond.selects "java/lang/IllegalArgumentException" ({ cls := "java/lang/Throwable", name := "fillInStackTrace", desc := "(I)Ljava/lang/Throwable;" } : Jvm.MethodName) ({ cls := "java/lang/Throwable", name := "fillInStackTrace", desc := "(I)Ljava/lang/Throwable;" } : Jvm.MethodName)) ∈ TB := tb_2 142 rfl rfl
theorem tw_2_143 : (Jvm.Cond.lays "java/lang/IllegalArgumentException" "java/lang/Throwable" "cause" "Ljava/lang/Throwable;") ∈ TB := tb_2 143 rfl rfl
theorem tw_2_144 : (Jvm.Cond.lays "java/lang/IllegalArgumentException" "java/lang/Throwable" "stackTrace" "[Ljava/lang/StackTraceElement;") ∈ TB := tb_2 144 rfl rfl
theorem tw_2_145 : (Jvm.Cond.lays "java/lang/IllegalArgumentException" "java/lang/Throwable" "suppressedExceptions" "Ljava/util/List;") ∈ TB := tb_2 145 rfl rfl
theorem tw_2_146 : (Jvm.Cond.lays "java/lang/IllegalArgumentException" "java/lang/Throwable" "detailMessage" "Ljava/lang/String;") ∈ TB := tb_2 146 rfl rfl
theorem tw_2_147 : (Jvm.Cond.lays "java/lang/IllegalArgumentException" "java/lang/Throwable" "backtrace" "Ljava/lang/Object;") ∈ TB := tb_2 147 rfl rfl
theorem tw_2_149 : (Jvm.Cond.methodLink "ToolCrib" (91 : Nat) ({ cls := "java/lang/IllegalArgumentException", name := "<init>", desc := "(Ljava/lang/String;)V" } : Jvm.MethodName)) ∈ TB := tb_2 149 rfl rfl
theorem tw_2_150 : (Jvm.Cond.instanceMethod ({ cls := "java/lang/IllegalArgumentException", name := "<init>", desc := "(Ljava/lang/String;)V" } : Jvm.MethodName)) ∈ TB := tb_2 150 rfl rfl
theorem tw_2_151 : (Jvm.Cond.code ({ cls := "java/lang/IllegalArgumentException", name := "<init>", desc := "(Ljava/lang/String;)V" } : Jvm.MethodName) prog_15_method_2_code (2 : Nat) (Option.none : Option Jvm.ClassFile.FieldType)) ∈ TB := tb_2 151 rfl rfl
theorem tw_2_152 : (Jvm.Cond.methodLink "java/lang/IllegalArgumentException" (7 : Nat) ({ cls := "java/lang/RuntimeException", name := "<init>", desc := "(Ljava/lang/String;)V" } : Jvm.MethodName)) ∈ TB := tb_2 152 rfl rfl
theorem tw_2_153 : (Jvm.Cond.lays "java/lang/IllegalArgumentException" "java/lang/Throwable" "depth" "I") ∈ TB := tb_2 153 rfl rfl
theorem tw_2_156 : (Jvm.Cond.classLink "ToolCrib" (136 : Nat) "ToolCrib$Pallet") ∈ TB := tb_2 156 rfl rfl
theorem tw_2_157 : (Jvm.Cond.instantiable "ToolCrib$Pallet" (10 : Nat)) ∈ TB := tb_2 157 rfl rfl
theorem tw_2_158 : (Jvm.Cond.methodLink "ToolCrib" (138 : Nat) ({ cls := "ToolCrib$Pallet", name := "<init>", desc := "(I)V" } : Jvm.MethodName)) ∈ TB := tb_2 158 rfl rfl
theorem tw_2_159 : (Jvm.Cond.instanceMethod ({ cls := "ToolCrib$Pallet", name := "<init>", desc := "(I)V" } : Jvm.MethodName)) ∈ TB := tb_2 159 rfl rfl
theorem tw_2_160 : (Jvm.Cond.code ({ cls := "ToolCrib$Pallet", name := "<init>", desc := "(I)V" } : Jvm.MethodName) prog_4_method_1_code (2 : Nat) (Option.none : Option Jvm.ClassFile.FieldType)) ∈ TB := tb_2 160 rfl rfl
theorem tw_2_161 : (Jvm.Cond.methodLink "ToolCrib$Pallet" (3 : Nat) ({ cls := "java/lang/Object", name := "<init>", desc := "()V" } : Jvm.MethodName)) ∈ TB := tb_2 161 rfl rfl
theorem tw_2_162 : (Jvm.Cond.methodLink "ToolCrib$Pallet" (37 : Nat) ({ cls := "java/util/Arrays", name := "fill", desc := "([II)V" } : Jvm.MethodName)) ∈ TB := tb_2 162 rfl rfl
theorem tw_2_163 : (Jvm.Cond.static ({ cls := "java/util/Arrays", name := "fill", desc := "([II)V" } : Jvm.MethodName)) ∈ TB := tb_2 163 rfl rfl
theorem tw_2_164 : (Jvm.Cond.code ({ cls := "java/util/Arrays", name := "fill", desc := "([II)V" } : Jvm.MethodName) prog_27_method_103_code (4 : Nat) (Option.none : Option Jvm.ClassFile.FieldType)) ∈ TB := tb_2 164 rfl rfl
theorem tw_2_165 : (Jvm.Cond.fieldLink "ToolCrib$Pallet" (9 : Nat) "ToolCrib$Pallet" "heights" "[I") ∈ TB := tb_2 165 rfl rfl
theorem tw_2_166 : (Jvm.Cond.fieldLink "ToolCrib$Trial" (18 : Nat) "ToolCrib$Pallet" "heights" "[I") ∈ TB := tb_2 166 rfl rfl
theorem tw_2_167 : (Jvm.Cond.fieldLink "ToolCrib" (326 : Nat) "ToolCrib$Pallet" "heights" "[I") ∈ TB := tb_2 167 rfl rfl
theorem tw_2_168 : (Jvm.Cond.fieldLink "ToolCrib$Pallet" (15 : Nat) "ToolCrib$Pallet" "sizes" "[I") ∈ TB := tb_2 168 rfl rfl
theorem tw_2_169 : (Jvm.Cond.fieldLink "ToolCrib" (282 : Nat) "ToolCrib$Pallet" "sizes" "[I") ∈ TB := tb_2 169 rfl rfl
theorem tw_2_170 : (Jvm.Cond.fieldLink "ToolCrib$Pallet" (18 : Nat) "ToolCrib$Pallet" "cutters" "[I") ∈ TB := tb_2 170 rfl rfl
theorem tw_2_171 : (Jvm.Cond.fieldLink "ToolCrib" (292 : Nat) "ToolCrib$Pallet" "cutters" "[I") ∈ TB := tb_2 171 rfl rfl
theorem tw_2_172 : (Jvm.Cond.fieldLink "ToolCrib$Pallet" (21 : Nat) "ToolCrib$Pallet" "causes" "[I") ∈ TB := tb_2 172 rfl rfl
theorem tw_2_173 : (Jvm.Cond.fieldLink "ToolCrib" (327 : Nat) "ToolCrib$Pallet" "causes" "[I") ∈ TB := tb_2 173 rfl rfl
theorem tw_2_174 : (Jvm.Cond.fieldLink "ToolCrib$Pallet" (24 : Nat) "ToolCrib$Pallet" "clamps" "[I") ∈ TB := tb_2 174 rfl rfl
theorem tw_2_175 : (Jvm.Cond.fieldLink "ToolCrib$Trial" (50 : Nat) "ToolCrib$Pallet" "clamps" "[I") ∈ TB := tb_2 175 rfl rfl
theorem tw_2_176 : (Jvm.Cond.fieldLink "ToolCrib" (154 : Nat) "ToolCrib$Pallet" "clamps" "[I") ∈ TB := tb_2 176 rfl rfl
theorem tw_2_177 : (Jvm.Cond.fieldLink "ToolCrib" (157 : Nat) "ToolCrib$Pallet" "clamped" "I") ∈ TB := tb_2 177 rfl rfl
theorem tw_2_178 : (Jvm.Cond.fieldLink "ToolCrib$Pallet" (27 : Nat) "ToolCrib$Pallet" "state" "I") ∈ TB := tb_2 178 rfl rfl
theorem tw_2_179 : (Jvm.Cond.fieldLink "ToolCrib" (151 : Nat) "ToolCrib$Pallet" "state" "I") ∈ TB := tb_2 179 rfl rfl
theorem tw_2_180 : (Jvm.Cond.fieldLink "ToolCrib$Pallet" (31 : Nat) "ToolCrib$Pallet" "program" "I") ∈ TB := tb_2 180 rfl rfl
theorem tw_2_181 : (Jvm.Cond.fieldLink "ToolCrib" (176 : Nat) "ToolCrib$Pallet" "program" "I") ∈ TB := tb_2 181 rfl rfl
theorem tw_2_182 : (Jvm.Cond.fieldLink "ToolCrib" (199 : Nat) "ToolCrib$Pallet" "gone" "I") ∈ TB := tb_2 182 rfl rfl
theorem tw_2_183 : (Jvm.Cond.fieldLink "ToolCrib$Pallet" (34 : Nat) "ToolCrib$Pallet" "judged" "I") ∈ TB := tb_2 183 rfl rfl
theorem tw_2_184 : (Jvm.Cond.fieldLink "ToolCrib" (304 : Nat) "ToolCrib$Pallet" "judged" "I") ∈ TB := tb_2 184 rfl rfl
theorem tw_2_185 : (Jvm.Cond.laysFinal "ToolCrib$Pallet" "ToolCrib$Pallet" "heights" "[I") ∈ TB := tb_2 185 rfl rfl
theorem tw_2_187 : (Jvm.Cond.laysFinal "ToolCrib$Pallet" "ToolCrib$Pallet" "sizes" "[I") ∈ TB := tb_2 187 rfl rfl
theorem tw_2_189 : (Jvm.Cond.laysFinal "ToolCrib$Pallet" "ToolCrib$Pallet" "cutters" "[I") ∈ TB := tb_2 189 rfl rfl
theorem tw_2_191 : (Jvm.Cond.laysFinal "ToolCrib$Pallet" "ToolCrib$Pallet" "causes" "[I") ∈ TB := tb_2 191 rfl rfl
theorem tw_2_193 : (Jvm.Cond.laysFinal "ToolCrib$Pallet" "ToolCrib$Pallet" "clamps" "[I") ∈ TB := tb_2 193 rfl rfl
theorem tw_2_195 : (Jvm.Cond.lays "ToolCrib$Pallet" "ToolCrib$Pallet" "clamped" "I") ∈ TB := tb_2 195 rfl rfl
theorem tw_2_197 : (Jvm.Cond.lays "ToolCrib$Pallet" "ToolCrib$Pallet" "state" "I") ∈ TB := tb_2 197 rfl rfl
theorem tw_2_199 : (Jvm.Cond.lays "ToolCrib$Pallet" "ToolCrib$Pallet" "program" "I") ∈ TB := tb_2 199 rfl rfl
theorem tw_2_201 : (Jvm.Cond.lays "ToolCrib$Pallet" "ToolCrib$Pallet" "gone" "I") ∈ TB := tb_2 201 rfl rfl
theorem tw_2_203 : (Jvm.Cond.lays "ToolCrib$Pallet" "ToolCrib$Pallet" "judged" "I") ∈ TB := tb_2 203 rfl rfl
theorem tw_2_206 : (Jvm.Cond.methodLink "ToolCribLaw" (156 : Nat) ({ cls := "ToolCrib", name := "feature", desc := "(IIIII)I" } : Jvm.MethodName)) ∈ TB := tb_2 206 rfl rfl
theorem tw_2_207 : (Jvm.Cond.instanceMethod ({ cls := "ToolCrib", name := "feature", desc := "(IIIII)I" } : Jvm.MethodName)) ∈ TB := tb_2 207 rfl rfl
theorem tw_2_208 : (Jvm.Cond.selects "ToolCrib" ({ cls := "ToolCrib", name := "feature", desc := "(IIIII)I" } : Jvm.MethodName) ({ cls := "ToolCrib", name := "feature", desc := "(IIIII)I" } : Jvm.MethodName)) ∈ TB := tb_2 208 rfl rfl
theorem tw_2_209 : (Jvm.Cond.code ({ cls := "ToolCrib", name := "feature", desc := "(IIIII)I" } : Jvm.MethodName) prog_1_method_18_code (8 : Nat) (Option.some Jvm.ClassFile.FieldType.int)) ∈ TB := tb_2 209 rfl rfl
theorem tw_2_210 : (Jvm.Cond.methodLink "ToolCrib" (241 : Nat) ({ cls := "ToolCrib", name := "drawingAt", desc := "(I)LToolCrib$Drawing;" } : Jvm.MethodName)) ∈ TB := tb_2 210 rfl rfl
theorem tw_2_212 : (Jvm.Cond.instanceMethod ({ cls := "ToolCrib", name := "drawingAt", desc := "(I)LToolCrib$Drawing;" } : Jvm.MethodName)) ∈ TB := tb_2 212 rfl rfl
theorem tw_2_213 : (Jvm.Cond.code ({ cls := "ToolCrib", name := "drawingAt", desc := "(I)LToolCrib$Drawing;" } : Jvm.MethodName) prog_1_method_34_code (2 : Nat) (Option.some (Jvm.ClassFile.FieldType.object "ToolCrib$Drawing"))) ∈ TB := tb_2 213 rfl rfl
theorem tw_2_214 : (Jvm.Cond.classLink "ToolCrib" (252 : Nat) "java/lang/IndexOutOfBoundsException") ∈ TB := tb_2 214 rfl rfl
theorem tw_2_215 : (Jvm.Cond.instantiable "java/lang/IndexOutOfBoundsException" (6 : Nat)) ∈ TB := tb_2 215 rfl rfl
theorem tw_2_217 : (Jvm.Cond.selects "java/lang/IndexOutOfBoundsException" ({ cls := "java/lang/Throwable", name := "fillInStackTrace", desc := "(I)Ljava/lang/Throwable;" } : Jvm.MethodName) ({ cls := "java/lang/Throwable", name := "fillInStackTrace", desc := "(I)Ljava/lang/Throwable;" } : Jvm.MethodName)) ∈ TB := tb_2 217 rfl rfl
theorem tw_2_218 : (Jvm.Cond.lays "java/lang/IndexOutOfBoundsException" "java/lang/Throwable" "cause" "Ljava/lang/Throwable;") ∈ TB := tb_2 218 rfl rfl
theorem tw_2_219 : (Jvm.Cond.lays "java/lang/IndexOutOfBoundsException" "java/lang/Throwable" "stackTrace" "[Ljava/lang/StackTraceElement;") ∈ TB := tb_2 219 rfl rfl
theorem tw_2_220 : (Jvm.Cond.lays "java/lang/IndexOutOfBoundsException" "java/lang/Throwable" "suppressedExceptions" "Ljava/util/List;") ∈ TB := tb_2 220 rfl rfl
theorem tw_2_221 : (Jvm.Cond.lays "java/lang/IndexOutOfBoundsException" "java/lang/Throwable" "detailMessage" "Ljava/lang/String;") ∈ TB := tb_2 221 rfl rfl
theorem tw_2_222 : (Jvm.Cond.lays "java/lang/IndexOutOfBoundsException" "java/lang/Throwable" "backtrace" "Ljava/lang/Object;") ∈ TB := tb_2 222 rfl rfl
theorem tw_2_224 : (Jvm.Cond.methodLink "ToolCrib" (256 : Nat) ({ cls := "java/lang/IndexOutOfBoundsException", name := "<init>", desc := "(Ljava/lang/String;)V" } : Jvm.MethodName)) ∈ TB := tb_2 224 rfl rfl
theorem tw_2_225 : (Jvm.Cond.instanceMethod ({ cls := "java/lang/IndexOutOfBoundsException", name := "<init>", desc := "(Ljava/lang/String;)V" } : Jvm.MethodName)) ∈ TB := tb_2 225 rfl rfl
theorem tw_2_226 : (Jvm.Cond.code ({ cls := "java/lang/IndexOutOfBoundsException", name := "<init>", desc := "(Ljava/lang/String;)V" } : Jvm.MethodName) prog_17_method_2_code (2 : Nat) (Option.none : Option Jvm.ClassFile.FieldType)) ∈ TB := tb_2 226 rfl rfl
theorem tw_2_227 : (Jvm.Cond.methodLink "java/lang/IndexOutOfBoundsException" (7 : Nat) ({ cls := "java/lang/RuntimeException", name := "<init>", desc := "(Ljava/lang/String;)V" } : Jvm.MethodName)) ∈ TB := tb_2 227 rfl rfl
theorem tw_2_228 : (Jvm.Cond.lays "java/lang/IndexOutOfBoundsException" "java/lang/Throwable" "depth" "I") ∈ TB := tb_2 228 rfl rfl
theorem tw_2_230 : (Jvm.Cond.methodLink "ToolCrib" (179 : Nat) ({ cls := "java/util/ArrayList", name := "get", desc := "(I)Ljava/lang/Object;" } : Jvm.MethodName)) ∈ TB := tb_2 230 rfl rfl
theorem tw_2_231 : (Jvm.Cond.instanceMethod ({ cls := "java/util/ArrayList", name := "get", desc := "(I)Ljava/lang/Object;" } : Jvm.MethodName)) ∈ TB := tb_2 231 rfl rfl
theorem tw_2_232 : (Jvm.Cond.selects "java/util/ArrayList" ({ cls := "java/util/ArrayList", name := "get", desc := "(I)Ljava/lang/Object;" } : Jvm.MethodName) ({ cls := "java/util/ArrayList", name := "get", desc := "(I)Ljava/lang/Object;" } : Jvm.MethodName)) ∈ TB := tb_2 232 rfl rfl
theorem tw_2_233 : (Jvm.Cond.code ({ cls := "java/util/ArrayList", name := "get", desc := "(I)Ljava/lang/Object;" } : Jvm.MethodName) prog_26_method_20_code (2 : Nat) (Option.some (Jvm.ClassFile.FieldType.object "java/lang/Object"))) ∈ TB := tb_2 233 rfl rfl
theorem tw_2_234 : (Jvm.Cond.methodLink "java/util/ArrayList" (118 : Nat) ({ cls := "java/util/Objects", name := "checkIndex", desc := "(II)I" } : Jvm.MethodName)) ∈ TB := tb_2 234 rfl rfl
theorem tw_2_235 : (Jvm.Cond.static ({ cls := "java/util/Objects", name := "checkIndex", desc := "(II)I" } : Jvm.MethodName)) ∈ TB := tb_2 235 rfl rfl
theorem tw_2_236 : (Jvm.Cond.code ({ cls := "java/util/Objects", name := "checkIndex", desc := "(II)I" } : Jvm.MethodName) prog_30_method_17_code (2 : Nat) (Option.some Jvm.ClassFile.FieldType.int)) ∈ TB := tb_2 236 rfl rfl
theorem tw_2_237 : (Jvm.Cond.methodLink "java/util/Objects" (105 : Nat) ({ cls := "jdk/internal/util/Preconditions", name := "checkIndex", desc := "(IILjava/util/function/BiFunction;)I" } : Jvm.MethodName)) ∈ TB := tb_2 237 rfl rfl
theorem tw_2_238 : (Jvm.Cond.static ({ cls := "jdk/internal/util/Preconditions", name := "checkIndex", desc := "(IILjava/util/function/BiFunction;)I" } : Jvm.MethodName)) ∈ TB := tb_2 238 rfl rfl
theorem tw_2_239 : (Jvm.Cond.code ({ cls := "jdk/internal/util/Preconditions", name := "checkIndex", desc := "(IILjava/util/function/BiFunction;)I" } : Jvm.MethodName) prog_34_method_11_code (3 : Nat) (Option.some Jvm.ClassFile.FieldType.int)) ∈ TB := tb_2 239 rfl rfl
theorem tw_3_0 : (Jvm.Cond.methodLink "java/util/ArrayList" (123 : Nat) ({ cls := "java/util/ArrayList", name := "elementData", desc := "(I)Ljava/lang/Object;" } : Jvm.MethodName)) ∈ TB := tb_3 0 rfl rfl
theorem tw_3_1 : (Jvm.Cond.instanceMethod ({ cls := "java/util/ArrayList", name := "elementData", desc := "(I)Ljava/lang/Object;" } : Jvm.MethodName)) ∈ TB := tb_3 1 rfl rfl
theorem tw_3_2 : (Jvm.Cond.selects "java/util/ArrayList" ({ cls := "java/util/ArrayList", name := "elementData", desc := "(I)Ljava/lang/Object;" } : Jvm.MethodName) ({ cls := "java/util/ArrayList", name := "elementData", desc := "(I)Ljava/lang/Object;" } : Jvm.MethodName)) ∈ TB := tb_3 2 rfl rfl
theorem tw_3_3 : (Jvm.Cond.code ({ cls := "java/util/ArrayList", name := "elementData", desc := "(I)Ljava/lang/Object;" } : Jvm.MethodName) prog_26_method_18_code (2 : Nat) (Option.some (Jvm.ClassFile.FieldType.object "java/lang/Object"))) ∈ TB := tb_3 3 rfl rfl
theorem tw_3_4 : (Jvm.Cond.methodLink "ToolCrib" (145 : Nat) ({ cls := "ToolCrib", name := "cellAt", desc := "(II)I" } : Jvm.MethodName)) ∈ TB := tb_3 4 rfl rfl
theorem tw_3_6 : (Jvm.Cond.instanceMethod ({ cls := "ToolCrib", name := "cellAt", desc := "(II)I" } : Jvm.MethodName)) ∈ TB := tb_3 6 rfl rfl
theorem tw_3_7 : (Jvm.Cond.code ({ cls := "ToolCrib", name := "cellAt", desc := "(II)I" } : Jvm.MethodName) prog_1_method_32_code (3 : Nat) (Option.some Jvm.ClassFile.FieldType.int)) ∈ TB := tb_3 7 rfl rfl
theorem tw_3_11 : (Jvm.Cond.methodLink "ToolCrib" (250 : Nat) ({ cls := "ToolCrib$Drawing", name := "append", desc := "(III)V" } : Jvm.MethodName)) ∈ TB := tb_3 11 rfl rfl
theorem tw_3_12 : (Jvm.Cond.instanceMethod ({ cls := "ToolCrib$Drawing", name := "append", desc := "(III)V" } : Jvm.MethodName)) ∈ TB := tb_3 12 rfl rfl
theorem tw_3_13 : (Jvm.Cond.selects "ToolCrib$Drawing" ({ cls := "ToolCrib$Drawing", name := "append", desc := "(III)V" } : Jvm.MethodName) ({ cls := "ToolCrib$Drawing", name := "append", desc := "(III)V" } : Jvm.MethodName)) ∈ TB := tb_3 13 rfl rfl
theorem tw_3_14 : (Jvm.Cond.code ({ cls := "ToolCrib$Drawing", name := "append", desc := "(III)V" } : Jvm.MethodName) prog_2_method_2_code (4 : Nat) (Option.none : Option Jvm.ClassFile.FieldType)) ∈ TB := tb_3 14 rfl rfl
theorem tw_3_15 : (Jvm.Cond.methodLink "ToolCribLaw" (160 : Nat) ({ cls := "ToolCrib", name := "tool", desc := "(II)I" } : Jvm.MethodName)) ∈ TB := tb_3 15 rfl rfl
theorem tw_3_16 : (Jvm.Cond.instanceMethod ({ cls := "ToolCrib", name := "tool", desc := "(II)I" } : Jvm.MethodName)) ∈ TB := tb_3 16 rfl rfl
theorem tw_3_17 : (Jvm.Cond.selects "ToolCrib" ({ cls := "ToolCrib", name := "tool", desc := "(II)I" } : Jvm.MethodName) ({ cls := "ToolCrib", name := "tool", desc := "(II)I" } : Jvm.MethodName)) ∈ TB := tb_3 17 rfl rfl
theorem tw_3_18 : (Jvm.Cond.code ({ cls := "ToolCrib", name := "tool", desc := "(II)I" } : Jvm.MethodName) prog_1_method_5_code (3 : Nat) (Option.some Jvm.ClassFile.FieldType.int)) ∈ TB := tb_3 18 rfl rfl
theorem tw_3_21 : (Jvm.Cond.classLink "ToolCrib" (114 : Nat) "ToolCrib$Tool") ∈ TB := tb_3 21 rfl rfl
theorem tw_3_22 : (Jvm.Cond.instantiable "ToolCrib$Tool" (8 : Nat)) ∈ TB := tb_3 22 rfl rfl
theorem tw_3_23 : (Jvm.Cond.methodLink "ToolCrib" (116 : Nat) ({ cls := "ToolCrib$Tool", name := "<init>", desc := "(III)V" } : Jvm.MethodName)) ∈ TB := tb_3 23 rfl rfl
theorem tw_3_24 : (Jvm.Cond.instanceMethod ({ cls := "ToolCrib$Tool", name := "<init>", desc := "(III)V" } : Jvm.MethodName)) ∈ TB := tb_3 24 rfl rfl
theorem tw_3_25 : (Jvm.Cond.code ({ cls := "ToolCrib$Tool", name := "<init>", desc := "(III)V" } : Jvm.MethodName) prog_7_method_1_code (4 : Nat) (Option.none : Option Jvm.ClassFile.FieldType)) ∈ TB := tb_3 25 rfl rfl
theorem tw_3_26 : (Jvm.Cond.methodLink "ToolCrib$Tool" (3 : Nat) ({ cls := "java/lang/Object", name := "<init>", desc := "()V" } : Jvm.MethodName)) ∈ TB := tb_3 26 rfl rfl
theorem tw_3_27 : (Jvm.Cond.fieldLink "ToolCrib$Tool" (15 : Nat) "ToolCrib$Tool" "number" "I") ∈ TB := tb_3 27 rfl rfl
theorem tw_3_28 : (Jvm.Cond.fieldLink "ToolCrib" (395 : Nat) "ToolCrib$Tool" "number" "I") ∈ TB := tb_3 28 rfl rfl
theorem tw_3_29 : (Jvm.Cond.fieldLink "ToolCrib$Tool" (19 : Nat) "ToolCrib$Tool" "kind" "I") ∈ TB := tb_3 29 rfl rfl
theorem tw_3_30 : (Jvm.Cond.fieldLink "ToolCrib" (310 : Nat) "ToolCrib$Tool" "kind" "I") ∈ TB := tb_3 30 rfl rfl
theorem tw_3_31 : (Jvm.Cond.fieldLink "ToolCrib$Tool" (22 : Nat) "ToolCrib$Tool" "life" "I") ∈ TB := tb_3 31 rfl rfl
theorem tw_3_32 : (Jvm.Cond.fieldLink "ToolCrib" (312 : Nat) "ToolCrib$Tool" "life" "I") ∈ TB := tb_3 32 rfl rfl
theorem tw_3_33 : (Jvm.Cond.fieldLink "ToolCrib$Tool" (9 : Nat) "ToolCrib$Tool" "latest" "[I") ∈ TB := tb_3 33 rfl rfl
theorem tw_3_34 : (Jvm.Cond.fieldLink "ToolCrib$Tool" (29 : Nat) "ToolCrib$Tool" "used" "I") ∈ TB := tb_3 34 rfl rfl
theorem tw_3_35 : (Jvm.Cond.fieldLink "ToolCrib" (315 : Nat) "ToolCrib$Tool" "used" "I") ∈ TB := tb_3 35 rfl rfl
theorem tw_3_36 : (Jvm.Cond.fieldLink "ToolCrib$Tool" (39 : Nat) "ToolCrib$Tool" "offset" "I") ∈ TB := tb_3 36 rfl rfl
theorem tw_3_37 : (Jvm.Cond.fieldLink "ToolCrib" (318 : Nat) "ToolCrib$Tool" "offset" "I") ∈ TB := tb_3 37 rfl rfl
theorem tw_3_38 : (Jvm.Cond.fieldLink "ToolCrib$Tool" (32 : Nat) "ToolCrib$Tool" "told" "I") ∈ TB := tb_3 38 rfl rfl
theorem tw_3_39 : (Jvm.Cond.fieldLink "ToolCrib" (321 : Nat) "ToolCrib$Tool" "told" "I") ∈ TB := tb_3 39 rfl rfl
theorem tw_3_40 : (Jvm.Cond.fieldLink "ToolCrib$Tool" (25 : Nat) "ToolCrib$Tool" "isIn" "Z") ∈ TB := tb_3 40 rfl rfl
theorem tw_3_41 : (Jvm.Cond.fieldLink "ToolCrib" (123 : Nat) "ToolCrib$Tool" "isIn" "Z") ∈ TB := tb_3 41 rfl rfl
theorem tw_3_42 : (Jvm.Cond.laysFinal "ToolCrib$Tool" "ToolCrib$Tool" "number" "I") ∈ TB := tb_3 42 rfl rfl
theorem tw_3_44 : (Jvm.Cond.laysFinal "ToolCrib$Tool" "ToolCrib$Tool" "kind" "I") ∈ TB := tb_3 44 rfl rfl
theorem tw_3_46 : (Jvm.Cond.laysFinal "ToolCrib$Tool" "ToolCrib$Tool" "life" "I") ∈ TB := tb_3 46 rfl rfl
theorem tw_3_48 : (Jvm.Cond.laysFinal "ToolCrib$Tool" "ToolCrib$Tool" "latest" "[I") ∈ TB := tb_3 48 rfl rfl
theorem tw_3_50 : (Jvm.Cond.lays "ToolCrib$Tool" "ToolCrib$Tool" "used" "I") ∈ TB := tb_3 50 rfl rfl
theorem tw_3_52 : (Jvm.Cond.lays "ToolCrib$Tool" "ToolCrib$Tool" "offset" "I") ∈ TB := tb_3 52 rfl rfl
theorem tw_3_54 : (Jvm.Cond.lays "ToolCrib$Tool" "ToolCrib$Tool" "told" "I") ∈ TB := tb_3 54 rfl rfl
theorem tw_3_56 : (Jvm.Cond.lays "ToolCrib$Tool" "ToolCrib$Tool" "isIn" "Z") ∈ TB := tb_3 56 rfl rfl
theorem tw_3_59 : (Jvm.Cond.methodLink "ToolCribLaw" (124 : Nat) ({ cls := "ToolCrib", name := "load", desc := "(IZ)I" } : Jvm.MethodName)) ∈ TB := tb_3 59 rfl rfl
theorem tw_3_60 : (Jvm.Cond.instanceMethod ({ cls := "ToolCrib", name := "load", desc := "(IZ)I" } : Jvm.MethodName)) ∈ TB := tb_3 60 rfl rfl
theorem tw_3_61 : (Jvm.Cond.selects "ToolCrib" ({ cls := "ToolCrib", name := "load", desc := "(IZ)I" } : Jvm.MethodName) ({ cls := "ToolCrib", name := "load", desc := "(IZ)I" } : Jvm.MethodName)) ∈ TB := tb_3 61 rfl rfl
theorem tw_3_62 : (Jvm.Cond.code ({ cls := "ToolCrib", name := "load", desc := "(IZ)I" } : Jvm.MethodName) prog_1_method_6_code (4 : Nat) (Option.some Jvm.ClassFile.FieldType.int)) ∈ TB := tb_3 62 rfl rfl
theorem tw_3_63 : (Jvm.Cond.methodLink "ToolCrib" (119 : Nat) ({ cls := "ToolCrib", name := "toolAt", desc := "(I)LToolCrib$Tool;" } : Jvm.MethodName)) ∈ TB := tb_3 63 rfl rfl
theorem tw_3_65 : (Jvm.Cond.instanceMethod ({ cls := "ToolCrib", name := "toolAt", desc := "(I)LToolCrib$Tool;" } : Jvm.MethodName)) ∈ TB := tb_3 65 rfl rfl
theorem tw_3_66 : (Jvm.Cond.code ({ cls := "ToolCrib", name := "toolAt", desc := "(I)LToolCrib$Tool;" } : Jvm.MethodName) prog_1_method_30_code (2 : Nat) (Option.some (Jvm.ClassFile.FieldType.object "ToolCrib$Tool"))) ∈ TB := tb_3 66 rfl rfl
theorem tw_3_68 : (Jvm.Cond.methodLink "ToolCrib" (127 : Nat) ({ cls := "ToolCrib", name := "countLoaded", desc := "()I" } : Jvm.MethodName)) ∈ TB := tb_3 68 rfl rfl
theorem tw_3_70 : (Jvm.Cond.instanceMethod ({ cls := "ToolCrib", name := "countLoaded", desc := "()I" } : Jvm.MethodName)) ∈ TB := tb_3 70 rfl rfl
theorem tw_3_71 : (Jvm.Cond.code ({ cls := "ToolCrib", name := "countLoaded", desc := "()I" } : Jvm.MethodName) prog_1_method_39_code (3 : Nat) (Option.some Jvm.ClassFile.FieldType.int)) ∈ TB := tb_3 71 rfl rfl
theorem tw_3_73 : (Jvm.Cond.methodLink "ToolCribLaw" (163 : Nat) ({ cls := "ToolCrib", name := "program", desc := "()I" } : Jvm.MethodName)) ∈ TB := tb_3 73 rfl rfl
theorem tw_3_74 : (Jvm.Cond.instanceMethod ({ cls := "ToolCrib", name := "program", desc := "()I" } : Jvm.MethodName)) ∈ TB := tb_3 74 rfl rfl
theorem tw_3_75 : (Jvm.Cond.selects "ToolCrib" ({ cls := "ToolCrib", name := "program", desc := "()I" } : Jvm.MethodName) ({ cls := "ToolCrib", name := "program", desc := "()I" } : Jvm.MethodName)) ∈ TB := tb_3 75 rfl rfl
theorem tw_3_76 : (Jvm.Cond.code ({ cls := "ToolCrib", name := "program", desc := "()I" } : Jvm.MethodName) prog_1_method_2_code (1 : Nat) (Option.some Jvm.ClassFile.FieldType.int)) ∈ TB := tb_3 76 rfl rfl
theorem tw_3_78 : (Jvm.Cond.classLink "ToolCrib" (76 : Nat) "ToolCrib$Program") ∈ TB := tb_3 78 rfl rfl
theorem tw_3_79 : (Jvm.Cond.instantiable "ToolCrib$Program" (3 : Nat)) ∈ TB := tb_3 79 rfl rfl
theorem tw_3_81 : (Jvm.Cond.instanceMethod ({ cls := "ToolCrib$Program", name := "<init>", desc := "()V" } : Jvm.MethodName)) ∈ TB := tb_3 81 rfl rfl
theorem tw_3_82 : (Jvm.Cond.code ({ cls := "ToolCrib$Program", name := "<init>", desc := "()V" } : Jvm.MethodName) prog_6_method_1_code (1 : Nat) (Option.none : Option Jvm.ClassFile.FieldType)) ∈ TB := tb_3 82 rfl rfl
theorem tw_3_83 : (Jvm.Cond.methodLink "ToolCrib$Program" (3 : Nat) ({ cls := "java/lang/Object", name := "<init>", desc := "()V" } : Jvm.MethodName)) ∈ TB := tb_3 83 rfl rfl
theorem tw_3_84 : (Jvm.Cond.fieldLink "ToolCrib$Program" (9 : Nat) "ToolCrib$Program" "words" "[I") ∈ TB := tb_3 84 rfl rfl
theorem tw_3_85 : (Jvm.Cond.fieldLink "ToolCrib$Walk" (89 : Nat) "ToolCrib$Program" "words" "[I") ∈ TB := tb_3 85 rfl rfl
theorem tw_3_86 : (Jvm.Cond.fieldLink "ToolCrib$Program" (15 : Nat) "ToolCrib$Program" "values" "[I") ∈ TB := tb_3 86 rfl rfl
theorem tw_3_87 : (Jvm.Cond.fieldLink "ToolCrib$Walk" (86 : Nat) "ToolCrib$Program" "values" "[I") ∈ TB := tb_3 87 rfl rfl
theorem tw_3_88 : (Jvm.Cond.fieldLink "ToolCrib$Program" (18 : Nat) "ToolCrib$Program" "size" "I") ∈ TB := tb_3 88 rfl rfl
theorem tw_3_89 : (Jvm.Cond.fieldLink "ToolCrib" (92 : Nat) "ToolCrib$Program" "size" "I") ∈ TB := tb_3 89 rfl rfl
theorem tw_3_90 : (Jvm.Cond.fieldLink "ToolCrib$Walk" (81 : Nat) "ToolCrib$Program" "size" "I") ∈ TB := tb_3 90 rfl rfl
theorem tw_3_91 : (Jvm.Cond.laysFinal "ToolCrib$Program" "ToolCrib$Program" "words" "[I") ∈ TB := tb_3 91 rfl rfl
theorem tw_3_93 : (Jvm.Cond.laysFinal "ToolCrib$Program" "ToolCrib$Program" "values" "[I") ∈ TB := tb_3 93 rfl rfl
theorem tw_3_95 : (Jvm.Cond.lays "ToolCrib$Program" "ToolCrib$Program" "size" "I") ∈ TB := tb_3 95 rfl rfl
theorem tw_3_98 : (Jvm.Cond.constant "ToolCribLaw" (166 : Nat) (1000000000 : Int32)) ∈ TB := tb_3 98 rfl rfl
theorem tw_3_99 : (Jvm.Cond.methodLink "ToolCribLaw" (167 : Nat) ({ cls := "ToolCribLaw", name := "isProgram", desc := "(LToolCrib;[III)Z" } : Jvm.MethodName)) ∈ TB := tb_3 99 rfl rfl
theorem tw_3_100 : (Jvm.Cond.static ({ cls := "ToolCribLaw", name := "isProgram", desc := "(LToolCrib;[III)Z" } : Jvm.MethodName)) ∈ TB := tb_3 100 rfl rfl
theorem tw_3_101 : (Jvm.Cond.code ({ cls := "ToolCribLaw", name := "isProgram", desc := "(LToolCrib;[III)Z" } : Jvm.MethodName) method_21_code (5 : Nat) (Option.some Jvm.ClassFile.FieldType.boolean)) ∈ TB := tb_3 101 rfl rfl
theorem tw_3_102 : (Jvm.Cond.methodLink "ToolCribLaw" (120 : Nat) ({ cls := "ToolCribLaw", name := "isBlock", desc := "(LToolCrib;[IIII)Z" } : Jvm.MethodName)) ∈ TB := tb_3 102 rfl rfl
theorem tw_3_103 : (Jvm.Cond.static ({ cls := "ToolCribLaw", name := "isBlock", desc := "(LToolCrib;[IIII)Z" } : Jvm.MethodName)) ∈ TB := tb_3 103 rfl rfl
theorem tw_3_104 : (Jvm.Cond.code ({ cls := "ToolCribLaw", name := "isBlock", desc := "(LToolCrib;[IIII)Z" } : Jvm.MethodName) method_20_code (5 : Nat) (Option.some Jvm.ClassFile.FieldType.boolean)) ∈ TB := tb_3 104 rfl rfl
theorem tw_3_105 : (Jvm.Cond.methodLink "ToolCribLaw" (118 : Nat) ({ cls := "ToolCrib", name := "block", desc := "(III)I" } : Jvm.MethodName)) ∈ TB := tb_3 105 rfl rfl
theorem tw_3_106 : (Jvm.Cond.instanceMethod ({ cls := "ToolCrib", name := "block", desc := "(III)I" } : Jvm.MethodName)) ∈ TB := tb_3 106 rfl rfl
theorem tw_3_107 : (Jvm.Cond.selects "ToolCrib" ({ cls := "ToolCrib", name := "block", desc := "(III)I" } : Jvm.MethodName) ({ cls := "ToolCrib", name := "block", desc := "(III)I" } : Jvm.MethodName)) ∈ TB := tb_3 107 rfl rfl
theorem tw_3_108 : (Jvm.Cond.code ({ cls := "ToolCrib", name := "block", desc := "(III)I" } : Jvm.MethodName) prog_1_method_3_code (5 : Nat) (Option.some Jvm.ClassFile.FieldType.int)) ∈ TB := tb_3 108 rfl rfl
theorem tw_3_109 : (Jvm.Cond.methodLink "ToolCrib" (79 : Nat) ({ cls := "ToolCrib", name := "programAt", desc := "(I)LToolCrib$Program;" } : Jvm.MethodName)) ∈ TB := tb_3 109 rfl rfl
theorem tw_3_111 : (Jvm.Cond.instanceMethod ({ cls := "ToolCrib", name := "programAt", desc := "(I)LToolCrib$Program;" } : Jvm.MethodName)) ∈ TB := tb_3 111 rfl rfl
theorem tw_3_112 : (Jvm.Cond.code ({ cls := "ToolCrib", name := "programAt", desc := "(I)LToolCrib$Program;" } : Jvm.MethodName) prog_1_method_29_code (2 : Nat) (Option.some (Jvm.ClassFile.FieldType.object "ToolCrib$Program"))) ∈ TB := tb_3 112 rfl rfl
theorem tw_3_114 : (Jvm.Cond.methodLink "ToolCrib" (83 : Nat) ({ cls := "ToolCrib", name := "isBlock", desc := "(III)Z" } : Jvm.MethodName)) ∈ TB := tb_3 114 rfl rfl
theorem tw_3_115 : (Jvm.Cond.static ({ cls := "ToolCrib", name := "isBlock", desc := "(III)Z" } : Jvm.MethodName)) ∈ TB := tb_3 115 rfl rfl
theorem tw_3_116 : (Jvm.Cond.code ({ cls := "ToolCrib", name := "isBlock", desc := "(III)Z" } : Jvm.MethodName) prog_1_method_37_code (3 : Nat) (Option.some Jvm.ClassFile.FieldType.boolean)) ∈ TB := tb_3 116 rfl rfl
theorem tw_3_118 : (Jvm.Cond.methodLink "ToolCrib" (95 : Nat) ({ cls := "java/util/ArrayList", name := "isEmpty", desc := "()Z" } : Jvm.MethodName)) ∈ TB := tb_3 118 rfl rfl
theorem tw_3_119 : (Jvm.Cond.instanceMethod ({ cls := "java/util/ArrayList", name := "isEmpty", desc := "()Z" } : Jvm.MethodName)) ∈ TB := tb_3 119 rfl rfl
theorem tw_3_120 : (Jvm.Cond.selects "java/util/ArrayList" ({ cls := "java/util/ArrayList", name := "isEmpty", desc := "()Z" } : Jvm.MethodName) ({ cls := "java/util/ArrayList", name := "isEmpty", desc := "()Z" } : Jvm.MethodName)) ∈ TB := tb_3 120 rfl rfl
theorem tw_3_121 : (Jvm.Cond.code ({ cls := "java/util/ArrayList", name := "isEmpty", desc := "()Z" } : Jvm.MethodName) prog_26_method_9_code (1 : Nat) (Option.some Jvm.ClassFile.FieldType.boolean)) ∈ TB := tb_3 121 rfl rfl
theorem tw_3_123 : (Jvm.Cond.methodLink "ToolCrib" (101 : Nat) ({ cls := "ToolCrib$Program", name := "append", desc := "(II)V" } : Jvm.MethodName)) ∈ TB := tb_3 123 rfl rfl
theorem tw_3_124 : (Jvm.Cond.instanceMethod ({ cls := "ToolCrib$Program", name := "append", desc := "(II)V" } : Jvm.MethodName)) ∈ TB := tb_3 124 rfl rfl
theorem tw_3_125 : (Jvm.Cond.selects "ToolCrib$Program" ({ cls := "ToolCrib$Program", name := "append", desc := "(II)V" } : Jvm.MethodName) ({ cls := "ToolCrib$Program", name := "append", desc := "(II)V" } : Jvm.MethodName)) ∈ TB := tb_3 125 rfl rfl
theorem tw_3_126 : (Jvm.Cond.code ({ cls := "ToolCrib$Program", name := "append", desc := "(II)V" } : Jvm.MethodName) prog_6_method_2_code (3 : Nat) (Option.none : Option Jvm.ClassFile.FieldType)) ∈ TB := tb_3 126 rfl rfl
theorem tw_3_127 : (Jvm.Cond.methodLink "ToolCribLaw" (176 : Nat) ({ cls := "ToolCribLaw", name := "isPlanned", desc := "(LToolCrib;[J[I[I[I[I[III)Z" } : Jvm.MethodName)) ∈ TB := tb_3 127 rfl rfl
theorem tw_3_128 : (Jvm.Cond.static ({ cls := "ToolCribLaw", name := "isPlanned", desc := "(LToolCrib;[J[I[I[I[I[III)Z" } : Jvm.MethodName)) ∈ TB := tb_3 128 rfl rfl
theorem tw_3_129 : (Jvm.Cond.code ({ cls := "ToolCribLaw", name := "isPlanned", desc := "(LToolCrib;[J[I[I[I[I[III)Z" } : Jvm.MethodName) method_24_code (9 : Nat) (Option.some Jvm.ClassFile.FieldType.boolean)) ∈ TB := tb_3 129 rfl rfl
theorem tw_3_130 : (Jvm.Cond.methodLink "ToolCribLaw" (37 : Nat) ({ cls := "ToolCribLaw", name := "copied", desc := "([J)[J" } : Jvm.MethodName)) ∈ TB := tb_3 130 rfl rfl
theorem tw_3_131 : (Jvm.Cond.static ({ cls := "ToolCribLaw", name := "copied", desc := "([J)[J" } : Jvm.MethodName)) ∈ TB := tb_3 131 rfl rfl
theorem tw_3_132 : (Jvm.Cond.code ({ cls := "ToolCribLaw", name := "copied", desc := "([J)[J" } : Jvm.MethodName) method_8_code (3 : Nat) (Option.some (Jvm.ClassFile.FieldType.array Jvm.ClassFile.FieldType.long))) ∈ TB := tb_3 132 rfl rfl
theorem tw_3_133 : (Jvm.Cond.methodLink "ToolCribLaw" (33 : Nat) ({ cls := "ToolCribLaw", name := "run", desc := "([J[I[I[I[IIIZ)I" } : Jvm.MethodName)) ∈ TB := tb_3 133 rfl rfl
theorem tw_3_134 : (Jvm.Cond.static ({ cls := "ToolCribLaw", name := "run", desc := "([J[I[I[I[IIIZ)I" } : Jvm.MethodName)) ∈ TB := tb_3 134 rfl rfl
theorem tw_3_135 : (Jvm.Cond.code ({ cls := "ToolCribLaw", name := "run", desc := "([J[I[I[I[IIIZ)I" } : Jvm.MethodName) method_7_code (9 : Nat) (Option.some Jvm.ClassFile.FieldType.int)) ∈ TB := tb_3 135 rfl rfl
theorem tw_3_136 : (Jvm.Cond.methodLink "ToolCribLaw" (29 : Nat) ({ cls := "ToolCribLaw", name := "block", desc := "([J[I[I[I[IIZ)I" } : Jvm.MethodName)) ∈ TB := tb_3 136 rfl rfl
theorem tw_3_137 : (Jvm.Cond.static ({ cls := "ToolCribLaw", name := "block", desc := "([J[I[I[I[IIZ)I" } : Jvm.MethodName)) ∈ TB := tb_3 137 rfl rfl
theorem tw_3_138 : (Jvm.Cond.code ({ cls := "ToolCribLaw", name := "block", desc := "([J[I[I[I[IIZ)I" } : Jvm.MethodName) method_6_code (12 : Nat) (Option.some Jvm.ClassFile.FieldType.int)) ∈ TB := tb_3 138 rfl rfl
theorem tw_3_139 : (Jvm.Cond.methodLink "ToolCribLaw" (25 : Nat) ({ cls := "ToolCribLaw", name := "move", desc := "([J[I[I[IIIIZ)I" } : Jvm.MethodName)) ∈ TB := tb_3 139 rfl rfl
theorem tw_3_140 : (Jvm.Cond.static ({ cls := "ToolCribLaw", name := "move", desc := "([J[I[I[IIIIZ)I" } : Jvm.MethodName)) ∈ TB := tb_3 140 rfl rfl
theorem tw_3_141 : (Jvm.Cond.code ({ cls := "ToolCribLaw", name := "move", desc := "([J[I[I[IIIIZ)I" } : Jvm.MethodName) method_5_code (10 : Nat) (Option.some Jvm.ClassFile.FieldType.int)) ∈ TB := tb_3 141 rfl rfl
theorem tw_3_142 : (Jvm.Cond.methodLink "ToolCribLaw" (21 : Nat) ({ cls := "ToolCribLaw", name := "step", desc := "([J[I[I[IIZ)I" } : Jvm.MethodName)) ∈ TB := tb_3 142 rfl rfl
theorem tw_3_143 : (Jvm.Cond.static ({ cls := "ToolCribLaw", name := "step", desc := "([J[I[I[IIZ)I" } : Jvm.MethodName)) ∈ TB := tb_3 143 rfl rfl
theorem tw_3_144 : (Jvm.Cond.code ({ cls := "ToolCribLaw", name := "step", desc := "([J[I[I[IIZ)I" } : Jvm.MethodName) method_4_code (16 : Nat) (Option.some Jvm.ClassFile.FieldType.int)) ∈ TB := tb_3 144 rfl rfl
theorem tw_3_146 : (Jvm.Cond.methodLink "ToolCribLaw" (11 : Nat) ({ cls := "ToolCribLaw", name := "toolFor", desc := "([II)I" } : Jvm.MethodName)) ∈ TB := tb_3 146 rfl rfl
theorem tw_3_147 : (Jvm.Cond.static ({ cls := "ToolCribLaw", name := "toolFor", desc := "([II)I" } : Jvm.MethodName)) ∈ TB := tb_3 147 rfl rfl
theorem tw_3_148 : (Jvm.Cond.code ({ cls := "ToolCribLaw", name := "toolFor", desc := "([II)I" } : Jvm.MethodName) method_3_code (3 : Nat) (Option.some Jvm.ClassFile.FieldType.int)) ∈ TB := tb_3 148 rfl rfl
theorem tw_3_151 : (Jvm.Cond.methodLink "ToolCribLaw" (143 : Nat) ({ cls := "ToolCrib", name := "plan", desc := "(II)I" } : Jvm.MethodName)) ∈ TB := tb_3 151 rfl rfl
theorem tw_3_152 : (Jvm.Cond.instanceMethod ({ cls := "ToolCrib", name := "plan", desc := "(II)I" } : Jvm.MethodName)) ∈ TB := tb_3 152 rfl rfl
theorem tw_3_153 : (Jvm.Cond.selects "ToolCrib" ({ cls := "ToolCrib", name := "plan", desc := "(II)I" } : Jvm.MethodName) ({ cls := "ToolCrib", name := "plan", desc := "(II)I" } : Jvm.MethodName)) ∈ TB := tb_3 153 rfl rfl
theorem tw_3_154 : (Jvm.Cond.code ({ cls := "ToolCrib", name := "plan", desc := "(II)I" } : Jvm.MethodName) prog_1_method_11_code (4 : Nat) (Option.some Jvm.ClassFile.FieldType.int)) ∈ TB := tb_3 154 rfl rfl
theorem tw_3_155 : (Jvm.Cond.methodLink "ToolCrib" (141 : Nat) ({ cls := "ToolCrib", name := "palletAt", desc := "(I)LToolCrib$Pallet;" } : Jvm.MethodName)) ∈ TB := tb_3 155 rfl rfl
theorem tw_3_157 : (Jvm.Cond.instanceMethod ({ cls := "ToolCrib", name := "palletAt", desc := "(I)LToolCrib$Pallet;" } : Jvm.MethodName)) ∈ TB := tb_3 157 rfl rfl
theorem tw_3_158 : (Jvm.Cond.code ({ cls := "ToolCrib", name := "palletAt", desc := "(I)LToolCrib$Pallet;" } : Jvm.MethodName) prog_1_method_31_code (2 : Nat) (Option.some (Jvm.ClassFile.FieldType.object "ToolCrib$Pallet"))) ∈ TB := tb_3 158 rfl rfl
theorem tw_3_160 : (Jvm.Cond.methodLink "ToolCrib" (162 : Nat) ({ cls := "ToolCrib", name := "tryWhole", desc := "(II)V" } : Jvm.MethodName)) ∈ TB := tb_3 160 rfl rfl
theorem tw_3_162 : (Jvm.Cond.instanceMethod ({ cls := "ToolCrib", name := "tryWhole", desc := "(II)V" } : Jvm.MethodName)) ∈ TB := tb_3 162 rfl rfl
theorem tw_3_163 : (Jvm.Cond.code ({ cls := "ToolCrib", name := "tryWhole", desc := "(II)V" } : Jvm.MethodName) prog_1_method_43_code (4 : Nat) (Option.none : Option Jvm.ClassFile.FieldType)) ∈ TB := tb_3 163 rfl rfl
theorem tw_3_164 : (Jvm.Cond.methodLink "ToolCrib" (202 : Nat) ({ cls := "ToolCrib$Trial", name := "run", desc := "(LToolCrib$Walk;LToolCrib$Pallet;II)V" } : Jvm.MethodName)) ∈ TB := tb_3 164 rfl rfl
theorem tw_3_165 : (Jvm.Cond.instanceMethod ({ cls := "ToolCrib$Trial", name := "run", desc := "(LToolCrib$Walk;LToolCrib$Pallet;II)V" } : Jvm.MethodName)) ∈ TB := tb_3 165 rfl rfl
theorem tw_3_166 : (Jvm.Cond.selects "ToolCrib$Trial" ({ cls := "ToolCrib$Trial", name := "run", desc := "(LToolCrib$Walk;LToolCrib$Pallet;II)V" } : Jvm.MethodName) ({ cls := "ToolCrib$Trial", name := "run", desc := "(LToolCrib$Walk;LToolCrib$Pallet;II)V" } : Jvm.MethodName)) ∈ TB := tb_3 166 rfl rfl
theorem tw_3_167 : (Jvm.Cond.code ({ cls := "ToolCrib$Trial", name := "run", desc := "(LToolCrib$Walk;LToolCrib$Pallet;II)V" } : Jvm.MethodName) prog_8_method_2_code (6 : Nat) (Option.none : Option Jvm.ClassFile.FieldType)) ∈ TB := tb_3 167 rfl rfl
theorem tw_3_168 : (Jvm.Cond.methodLink "ToolCrib$Trial" (21 : Nat) ({ cls := "java/lang/System", name := "arraycopy", desc := "(Ljava/lang/Object;ILjava/lang/Object;II)V" } : Jvm.MethodName)) ∈ TB := tb_3 168 rfl rfl
theorem tw_3_169 : (Jvm.Cond.methodLink "ToolCrib$Trial" (27 : Nat) ({ cls := "java/util/Arrays", name := "fill", desc := "([II)V" } : Jvm.MethodName)) ∈ TB := tb_3 169 rfl rfl
theorem tw_3_170 : (Jvm.Cond.methodLink "ToolCrib$Trial" (40 : Nat) ({ cls := "ToolCrib$Walk", name := "begin", desc := "(I)V" } : Jvm.MethodName)) ∈ TB := tb_3 170 rfl rfl
theorem tw_3_171 : (Jvm.Cond.instanceMethod ({ cls := "ToolCrib$Walk", name := "begin", desc := "(I)V" } : Jvm.MethodName)) ∈ TB := tb_3 171 rfl rfl
theorem tw_3_172 : (Jvm.Cond.selects "ToolCrib$Walk" ({ cls := "ToolCrib$Walk", name := "begin", desc := "(I)V" } : Jvm.MethodName) ({ cls := "ToolCrib$Walk", name := "begin", desc := "(I)V" } : Jvm.MethodName)) ∈ TB := tb_3 172 rfl rfl
theorem tw_3_173 : (Jvm.Cond.code ({ cls := "ToolCrib$Walk", name := "begin", desc := "(I)V" } : Jvm.MethodName) prog_9_method_2_code (2 : Nat) (Option.none : Option Jvm.ClassFile.FieldType)) ∈ TB := tb_3 173 rfl rfl
theorem tw_3_174 : (Jvm.Cond.methodLink "ToolCrib$Walk" (28 : Nat) ({ cls := "java/util/ArrayList", name := "clear", desc := "()V" } : Jvm.MethodName)) ∈ TB := tb_3 174 rfl rfl
theorem tw_3_175 : (Jvm.Cond.instanceMethod ({ cls := "java/util/ArrayList", name := "clear", desc := "()V" } : Jvm.MethodName)) ∈ TB := tb_3 175 rfl rfl
theorem tw_3_176 : (Jvm.Cond.selects "java/util/ArrayList" ({ cls := "java/util/ArrayList", name := "clear", desc := "()V" } : Jvm.MethodName) ({ cls := "java/util/ArrayList", name := "clear", desc := "()V" } : Jvm.MethodName)) ∈ TB := tb_3 176 rfl rfl
theorem tw_3_177 : (Jvm.Cond.code ({ cls := "java/util/ArrayList", name := "clear", desc := "()V" } : Jvm.MethodName) prog_26_method_40_code (4 : Nat) (Option.none : Option Jvm.ClassFile.FieldType)) ∈ TB := tb_3 177 rfl rfl
theorem tw_3_178 : (Jvm.Cond.methodLink "ToolCrib$Walk" (54 : Nat) ({ cls := "ToolCrib$Walk", name := "enter", desc := "(I)V" } : Jvm.MethodName)) ∈ TB := tb_3 178 rfl rfl
theorem tw_3_180 : (Jvm.Cond.instanceMethod ({ cls := "ToolCrib$Walk", name := "enter", desc := "(I)V" } : Jvm.MethodName)) ∈ TB := tb_3 180 rfl rfl
theorem tw_3_181 : (Jvm.Cond.code ({ cls := "ToolCrib$Walk", name := "enter", desc := "(I)V" } : Jvm.MethodName) prog_9_method_10_code (3 : Nat) (Option.none : Option Jvm.ClassFile.FieldType)) ∈ TB := tb_3 181 rfl rfl
theorem tw_3_182 : (Jvm.Cond.methodLink "ToolCrib$Walk" (65 : Nat) ({ cls := "java/util/ArrayList", name := "size", desc := "()I" } : Jvm.MethodName)) ∈ TB := tb_3 182 rfl rfl
theorem tw_3_183 : (Jvm.Cond.methodLink "ToolCrib$Walk" (75 : Nat) ({ cls := "java/util/ArrayList", name := "get", desc := "(I)Ljava/lang/Object;" } : Jvm.MethodName)) ∈ TB := tb_3 183 rfl rfl
theorem tw_3_184 : (Jvm.Cond.classLink "ToolCrib$Walk" (79 : Nat) "ToolCrib$Program") ∈ TB := tb_3 184 rfl rfl
theorem tw_3_185 : (Jvm.Cond.methodLink "ToolCrib$Walk" (99 : Nat) ({ cls := "java/util/ArrayList", name := "add", desc := "(Ljava/lang/Object;)Z" } : Jvm.MethodName)) ∈ TB := tb_3 185 rfl rfl
theorem tw_3_186 : (Jvm.Cond.methodLink "ToolCrib$Trial" (46 : Nat) ({ cls := "ToolCrib$Walk", name := "goStep", desc := "()Z" } : Jvm.MethodName)) ∈ TB := tb_3 186 rfl rfl
theorem tw_3_187 : (Jvm.Cond.instanceMethod ({ cls := "ToolCrib$Walk", name := "goStep", desc := "()Z" } : Jvm.MethodName)) ∈ TB := tb_3 187 rfl rfl
theorem tw_3_188 : (Jvm.Cond.selects "ToolCrib$Walk" ({ cls := "ToolCrib$Walk", name := "goStep", desc := "()Z" } : Jvm.MethodName) ({ cls := "ToolCrib$Walk", name := "goStep", desc := "()Z" } : Jvm.MethodName)) ∈ TB := tb_3 188 rfl rfl
theorem tw_3_189 : (Jvm.Cond.code ({ cls := "ToolCrib$Walk", name := "goStep", desc := "()Z" } : Jvm.MethodName) prog_9_method_3_code (2 : Nat) (Option.some Jvm.ClassFile.FieldType.boolean)) ∈ TB := tb_3 189 rfl rfl
theorem tw_3_190 : (Jvm.Cond.methodLink "ToolCrib$Walk" (58 : Nat) ({ cls := "ToolCrib$Walk", name := "leaveEnded", desc := "()V" } : Jvm.MethodName)) ∈ TB := tb_3 190 rfl rfl
theorem tw_3_192 : (Jvm.Cond.instanceMethod ({ cls := "ToolCrib$Walk", name := "leaveEnded", desc := "()V" } : Jvm.MethodName)) ∈ TB := tb_3 192 rfl rfl
theorem tw_3_193 : (Jvm.Cond.code ({ cls := "ToolCrib$Walk", name := "leaveEnded", desc := "()V" } : Jvm.MethodName) prog_9_method_7_code (2 : Nat) (Option.none : Option Jvm.ClassFile.FieldType)) ∈ TB := tb_3 193 rfl rfl
theorem tw_3_194 : (Jvm.Cond.methodLink "ToolCrib$Walk" (83 : Nat) ({ cls := "java/util/ArrayList", name := "remove", desc := "(I)Ljava/lang/Object;" } : Jvm.MethodName)) ∈ TB := tb_3 194 rfl rfl
theorem tw_3_195 : (Jvm.Cond.instanceMethod ({ cls := "java/util/ArrayList", name := "remove", desc := "(I)Ljava/lang/Object;" } : Jvm.MethodName)) ∈ TB := tb_3 195 rfl rfl
theorem tw_3_196 : (Jvm.Cond.selects "java/util/ArrayList" ({ cls := "java/util/ArrayList", name := "remove", desc := "(I)Ljava/lang/Object;" } : Jvm.MethodName) ({ cls := "java/util/ArrayList", name := "remove", desc := "(I)Ljava/lang/Object;" } : Jvm.MethodName)) ∈ TB := tb_3 196 rfl rfl
theorem tw_3_197 : (Jvm.Cond.code ({ cls := "java/util/ArrayList", name := "remove", desc := "(I)Ljava/lang/Object;" } : Jvm.MethodName) prog_26_method_29_code (4 : Nat) (Option.some (Jvm.ClassFile.FieldType.object "java/lang/Object"))) ∈ TB := tb_3 197 rfl rfl
theorem tw_3_198 : (Jvm.Cond.methodLink "java/util/ArrayList" (144 : Nat) ({ cls := "java/util/ArrayList", name := "fastRemove", desc := "([Ljava/lang/Object;I)V" } : Jvm.MethodName)) ∈ TB := tb_3 198 rfl rfl
theorem tw_3_200 : (Jvm.Cond.instanceMethod ({ cls := "java/util/ArrayList", name := "fastRemove", desc := "([Ljava/lang/Object;I)V" } : Jvm.MethodName)) ∈ TB := tb_3 200 rfl rfl
theorem tw_3_201 : (Jvm.Cond.code ({ cls := "java/util/ArrayList", name := "fastRemove", desc := "([Ljava/lang/Object;I)V" } : Jvm.MethodName) prog_26_method_39_code (4 : Nat) (Option.none : Option Jvm.ClassFile.FieldType)) ∈ TB := tb_3 201 rfl rfl
theorem tw_3_202 : (Jvm.Cond.methodLink "java/util/ArrayList" (112 : Nat) ({ cls := "java/lang/System", name := "arraycopy", desc := "(Ljava/lang/Object;ILjava/lang/Object;II)V" } : Jvm.MethodName)) ∈ TB := tb_3 202 rfl rfl
theorem tw_3_203 : (Jvm.Cond.methodLink "ToolCrib$Walk" (61 : Nat) ({ cls := "java/util/ArrayList", name := "isEmpty", desc := "()Z" } : Jvm.MethodName)) ∈ TB := tb_3 203 rfl rfl
theorem tw_3_204 : (Jvm.Cond.methodLink "ToolCrib$Walk" (69 : Nat) ({ cls := "ToolCrib$Walk", name := "obeyNext", desc := "(I)V" } : Jvm.MethodName)) ∈ TB := tb_3 204 rfl rfl
theorem tw_3_206 : (Jvm.Cond.instanceMethod ({ cls := "ToolCrib$Walk", name := "obeyNext", desc := "(I)V" } : Jvm.MethodName)) ∈ TB := tb_3 206 rfl rfl
theorem tw_3_207 : (Jvm.Cond.code ({ cls := "ToolCrib$Walk", name := "obeyNext", desc := "(I)V" } : Jvm.MethodName) prog_9_method_8_code (4 : Nat) (Option.none : Option Jvm.ClassFile.FieldType)) ∈ TB := tb_3 207 rfl rfl
theorem tw_3_208 : (Jvm.Cond.methodLink "ToolCrib$Walk" (92 : Nat) ({ cls := "ToolCrib$Walk", name := "aim", desc := "(III)V" } : Jvm.MethodName)) ∈ TB := tb_3 208 rfl rfl
theorem tw_3_210 : (Jvm.Cond.instanceMethod ({ cls := "ToolCrib$Walk", name := "aim", desc := "(III)V" } : Jvm.MethodName)) ∈ TB := tb_3 210 rfl rfl
theorem tw_3_211 : (Jvm.Cond.code ({ cls := "ToolCrib$Walk", name := "aim", desc := "(III)V" } : Jvm.MethodName) prog_9_method_11_code (5 : Nat) (Option.none : Option Jvm.ClassFile.FieldType)) ∈ TB := tb_3 211 rfl rfl
theorem tw_3_212 : (Jvm.Cond.methodLink "ToolCrib$Walk" (96 : Nat) ({ cls := "ToolCrib$Walk", name := "changeTool", desc := "(I)V" } : Jvm.MethodName)) ∈ TB := tb_3 212 rfl rfl
theorem tw_3_214 : (Jvm.Cond.instanceMethod ({ cls := "ToolCrib$Walk", name := "changeTool", desc := "(I)V" } : Jvm.MethodName)) ∈ TB := tb_3 214 rfl rfl
theorem tw_3_215 : (Jvm.Cond.code ({ cls := "ToolCrib$Walk", name := "changeTool", desc := "(I)V" } : Jvm.MethodName) prog_9_method_9_code (2 : Nat) (Option.none : Option Jvm.ClassFile.FieldType)) ∈ TB := tb_3 215 rfl rfl
theorem tw_3_216 : (Jvm.Cond.methodLink "ToolCrib$Trial" (53 : Nat) ({ cls := "ToolCrib$Walk", name := "isBelow", desc := "([I)Z" } : Jvm.MethodName)) ∈ TB := tb_3 216 rfl rfl
theorem tw_3_217 : (Jvm.Cond.instanceMethod ({ cls := "ToolCrib$Walk", name := "isBelow", desc := "([I)Z" } : Jvm.MethodName)) ∈ TB := tb_3 217 rfl rfl
theorem tw_3_218 : (Jvm.Cond.selects "ToolCrib$Walk" ({ cls := "ToolCrib$Walk", name := "isBelow", desc := "([I)Z" } : Jvm.MethodName) ({ cls := "ToolCrib$Walk", name := "isBelow", desc := "([I)Z" } : Jvm.MethodName)) ∈ TB := tb_3 218 rfl rfl
theorem tw_3_219 : (Jvm.Cond.code ({ cls := "ToolCrib$Walk", name := "isBelow", desc := "([I)Z" } : Jvm.MethodName) prog_9_method_5_code (2 : Nat) (Option.some Jvm.ClassFile.FieldType.boolean)) ∈ TB := tb_3 219 rfl rfl
theorem tw_3_220 : (Jvm.Cond.methodLink "ToolCrib$Walk" (72 : Nat) ({ cls := "ToolCrib$Walk", name := "cellNow", desc := "()I" } : Jvm.MethodName)) ∈ TB := tb_3 220 rfl rfl
theorem tw_3_221 : (Jvm.Cond.instanceMethod ({ cls := "ToolCrib$Walk", name := "cellNow", desc := "()I" } : Jvm.MethodName)) ∈ TB := tb_3 221 rfl rfl
theorem tw_3_222 : (Jvm.Cond.selects "ToolCrib$Walk" ({ cls := "ToolCrib$Walk", name := "cellNow", desc := "()I" } : Jvm.MethodName) ({ cls := "ToolCrib$Walk", name := "cellNow", desc := "()I" } : Jvm.MethodName)) ∈ TB := tb_3 222 rfl rfl
theorem tw_3_223 : (Jvm.Cond.code ({ cls := "ToolCrib$Walk", name := "cellNow", desc := "()I" } : Jvm.MethodName) prog_9_method_4_code (1 : Nat) (Option.some Jvm.ClassFile.FieldType.int)) ∈ TB := tb_3 223 rfl rfl
theorem tw_3_224 : (Jvm.Cond.methodLink "ToolCrib$Trial" (57 : Nat) ({ cls := "ToolCrib$Walk", name := "canCut", desc := "()Z" } : Jvm.MethodName)) ∈ TB := tb_3 224 rfl rfl
theorem tw_3_225 : (Jvm.Cond.instanceMethod ({ cls := "ToolCrib$Walk", name := "canCut", desc := "()Z" } : Jvm.MethodName)) ∈ TB := tb_3 225 rfl rfl
theorem tw_3_226 : (Jvm.Cond.selects "ToolCrib$Walk" ({ cls := "ToolCrib$Walk", name := "canCut", desc := "()Z" } : Jvm.MethodName) ({ cls := "ToolCrib$Walk", name := "canCut", desc := "()Z" } : Jvm.MethodName)) ∈ TB := tb_3 226 rfl rfl
theorem tw_3_227 : (Jvm.Cond.code ({ cls := "ToolCrib$Walk", name := "canCut", desc := "()Z" } : Jvm.MethodName) prog_9_method_6_code (1 : Nat) (Option.some Jvm.ClassFile.FieldType.boolean)) ∈ TB := tb_3 227 rfl rfl
theorem tw_3_228 : (Jvm.Cond.methodLink "ToolCrib$Trial" (66 : Nat) ({ cls := "ToolCrib$Walk", name := "cellNow", desc := "()I" } : Jvm.MethodName)) ∈ TB := tb_3 228 rfl rfl
theorem tw_3_230 : (Jvm.Cond.methodLink "ToolCribLaw" (45 : Nat) ({ cls := "ToolCribLaw", name := "night", desc := "([J[J[I[I[I[I[I)I" } : Jvm.MethodName)) ∈ TB := tb_3 230 rfl rfl
theorem tw_3_231 : (Jvm.Cond.static ({ cls := "ToolCribLaw", name := "night", desc := "([J[J[I[I[I[I[I)I" } : Jvm.MethodName)) ∈ TB := tb_3 231 rfl rfl
theorem tw_3_232 : (Jvm.Cond.code ({ cls := "ToolCribLaw", name := "night", desc := "([J[J[I[I[I[I[I)I" } : Jvm.MethodName) method_10_code (10 : Nat) (Option.some Jvm.ClassFile.FieldType.int)) ∈ TB := tb_3 232 rfl rfl
theorem tw_3_233 : (Jvm.Cond.methodLink "ToolCribLaw" (180 : Nat) ({ cls := "ToolCrib", name := "night", desc := "()I" } : Jvm.MethodName)) ∈ TB := tb_3 233 rfl rfl
theorem tw_3_234 : (Jvm.Cond.instanceMethod ({ cls := "ToolCrib", name := "night", desc := "()I" } : Jvm.MethodName)) ∈ TB := tb_3 234 rfl rfl
theorem tw_3_235 : (Jvm.Cond.selects "ToolCrib" ({ cls := "ToolCrib", name := "night", desc := "()I" } : Jvm.MethodName) ({ cls := "ToolCrib", name := "night", desc := "()I" } : Jvm.MethodName)) ∈ TB := tb_3 235 rfl rfl
theorem tw_3_236 : (Jvm.Cond.code ({ cls := "ToolCrib", name := "night", desc := "()I" } : Jvm.MethodName) prog_1_method_12_code (4 : Nat) (Option.some Jvm.ClassFile.FieldType.int)) ∈ TB := tb_3 236 rfl rfl
theorem tw_3_237 : (Jvm.Cond.methodLink "ToolCrib" (183 : Nat) ({ cls := "ToolCrib", name := "isCutToEnd", desc := "(LToolCrib$Pallet;)Z" } : Jvm.MethodName)) ∈ TB := tb_3 237 rfl rfl
theorem tw_3_239 : (Jvm.Cond.instanceMethod ({ cls := "ToolCrib", name := "isCutToEnd", desc := "(LToolCrib$Pallet;)Z" } : Jvm.MethodName)) ∈ TB := tb_3 239 rfl rfl
theorem tw_4_0 : (Jvm.Cond.code ({ cls := "ToolCrib", name := "isCutToEnd", desc := "(LToolCrib$Pallet;)Z" } : Jvm.MethodName) prog_1_method_45_code (5 : Nat) (Option.some Jvm.ClassFile.FieldType.boolean)) ∈ TB := tb_4 0 rfl rfl
theorem tw_4_1 : (Jvm.Cond.methodLink "ToolCrib" (371 : Nat) ({ cls := "ToolCrib$Walk", name := "begin", desc := "(I)V" } : Jvm.MethodName)) ∈ TB := tb_4 1 rfl rfl
theorem tw_4_2 : (Jvm.Cond.methodLink "ToolCrib" (374 : Nat) ({ cls := "ToolCrib$Walk", name := "goStep", desc := "()Z" } : Jvm.MethodName)) ∈ TB := tb_4 2 rfl rfl
theorem tw_4_3 : (Jvm.Cond.methodLink "ToolCrib" (377 : Nat) ({ cls := "ToolCrib$Walk", name := "isBelow", desc := "([I)Z" } : Jvm.MethodName)) ∈ TB := tb_4 3 rfl rfl
theorem tw_4_4 : (Jvm.Cond.methodLink "ToolCrib" (382 : Nat) ({ cls := "ToolCrib", name := "lowestToolFor", desc := "(I)LToolCrib$Tool;" } : Jvm.MethodName)) ∈ TB := tb_4 4 rfl rfl
theorem tw_4_6 : (Jvm.Cond.instanceMethod ({ cls := "ToolCrib", name := "lowestToolFor", desc := "(I)LToolCrib$Tool;" } : Jvm.MethodName)) ∈ TB := tb_4 6 rfl rfl
theorem tw_4_7 : (Jvm.Cond.code ({ cls := "ToolCrib", name := "lowestToolFor", desc := "(I)LToolCrib$Tool;" } : Jvm.MethodName) prog_1_method_41_code (3 : Nat) (Option.some (Jvm.ClassFile.FieldType.object "ToolCrib$Tool"))) ∈ TB := tb_4 7 rfl rfl
theorem tw_4_8 : (Jvm.Cond.methodLink "ToolCrib" (365 : Nat) ({ cls := "ToolCrib$Tool", name := "leftFor", desc := "(I)I" } : Jvm.MethodName)) ∈ TB := tb_4 8 rfl rfl
theorem tw_4_9 : (Jvm.Cond.instanceMethod ({ cls := "ToolCrib$Tool", name := "leftFor", desc := "(I)I" } : Jvm.MethodName)) ∈ TB := tb_4 9 rfl rfl
theorem tw_4_10 : (Jvm.Cond.selects "ToolCrib$Tool" ({ cls := "ToolCrib$Tool", name := "leftFor", desc := "(I)I" } : Jvm.MethodName) ({ cls := "ToolCrib$Tool", name := "leftFor", desc := "(I)I" } : Jvm.MethodName)) ∈ TB := tb_4 10 rfl rfl
theorem tw_4_11 : (Jvm.Cond.code ({ cls := "ToolCrib$Tool", name := "leftFor", desc := "(I)I" } : Jvm.MethodName) prog_7_method_2_code (2 : Nat) (Option.some Jvm.ClassFile.FieldType.int)) ∈ TB := tb_4 11 rfl rfl
theorem tw_4_12 : (Jvm.Cond.methodLink "ToolCrib" (385 : Nat) ({ cls := "ToolCrib", name := "cutBy", desc := "(LToolCrib$Tool;LToolCrib$Pallet;)V" } : Jvm.MethodName)) ∈ TB := tb_4 12 rfl rfl
theorem tw_4_14 : (Jvm.Cond.instanceMethod ({ cls := "ToolCrib", name := "cutBy", desc := "(LToolCrib$Tool;LToolCrib$Pallet;)V" } : Jvm.MethodName)) ∈ TB := tb_4 14 rfl rfl
theorem tw_4_15 : (Jvm.Cond.code ({ cls := "ToolCrib", name := "cutBy", desc := "(LToolCrib$Tool;LToolCrib$Pallet;)V" } : Jvm.MethodName) prog_1_method_46_code (6 : Nat) (Option.none : Option Jvm.ClassFile.FieldType)) ∈ TB := tb_4 15 rfl rfl
theorem tw_4_16 : (Jvm.Cond.methodLink "ToolCrib" (389 : Nat) ({ cls := "ToolCrib$Walk", name := "cellNow", desc := "()I" } : Jvm.MethodName)) ∈ TB := tb_4 16 rfl rfl
theorem tw_4_17 : (Jvm.Cond.methodLink "ToolCrib" (398 : Nat) ({ cls := "ToolCrib", name := "greatestPart", desc := "()I" } : Jvm.MethodName)) ∈ TB := tb_4 17 rfl rfl
theorem tw_4_19 : (Jvm.Cond.instanceMethod ({ cls := "ToolCrib", name := "greatestPart", desc := "()I" } : Jvm.MethodName)) ∈ TB := tb_4 19 rfl rfl
theorem tw_4_20 : (Jvm.Cond.code ({ cls := "ToolCrib", name := "greatestPart", desc := "()I" } : Jvm.MethodName) prog_1_method_47_code (4 : Nat) (Option.some Jvm.ClassFile.FieldType.int)) ∈ TB := tb_4 20 rfl rfl
theorem tw_4_21 : (Jvm.Cond.methodLink "ToolCrib" (404 : Nat) ({ cls := "java/lang/Math", name := "abs", desc := "(I)I" } : Jvm.MethodName)) ∈ TB := tb_4 21 rfl rfl
theorem tw_4_22 : (Jvm.Cond.static ({ cls := "java/lang/Math", name := "abs", desc := "(I)I" } : Jvm.MethodName)) ∈ TB := tb_4 22 rfl rfl
theorem tw_4_23 : (Jvm.Cond.code ({ cls := "java/lang/Math", name := "abs", desc := "(I)I" } : Jvm.MethodName) prog_19_method_59_code (1 : Nat) (Option.some Jvm.ClassFile.FieldType.int)) ∈ TB := tb_4 23 rfl rfl
theorem tw_4_24 : (Jvm.Cond.methodLink "ToolCrib" (401 : Nat) ({ cls := "java/lang/Math", name := "min", desc := "(II)I" } : Jvm.MethodName)) ∈ TB := tb_4 24 rfl rfl
theorem tw_4_25 : (Jvm.Cond.methodLink "ToolCrib" (187 : Nat) ({ cls := "java/util/ArrayList", name := "remove", desc := "(I)Ljava/lang/Object;" } : Jvm.MethodName)) ∈ TB := tb_4 25 rfl rfl
theorem tw_4_26 : (Jvm.Cond.methodLink "ToolCribLaw" (182 : Nat) ({ cls := "ToolCribLaw", name := "isTold", desc := "(LToolCrib;[I[III)Z" } : Jvm.MethodName)) ∈ TB := tb_4 26 rfl rfl
theorem tw_4_27 : (Jvm.Cond.static ({ cls := "ToolCribLaw", name := "isTold", desc := "(LToolCrib;[I[III)Z" } : Jvm.MethodName)) ∈ TB := tb_4 27 rfl rfl
theorem tw_4_28 : (Jvm.Cond.code ({ cls := "ToolCribLaw", name := "isTold", desc := "(LToolCrib;[I[III)Z" } : Jvm.MethodName) method_22_code (8 : Nat) (Option.some Jvm.ClassFile.FieldType.boolean)) ∈ TB := tb_4 28 rfl rfl
theorem tw_4_29 : (Jvm.Cond.methodLink "ToolCribLaw" (128 : Nat) ({ cls := "ToolCrib", name := "map", desc := "(II)I" } : Jvm.MethodName)) ∈ TB := tb_4 29 rfl rfl
theorem tw_4_30 : (Jvm.Cond.instanceMethod ({ cls := "ToolCrib", name := "map", desc := "(II)I" } : Jvm.MethodName)) ∈ TB := tb_4 30 rfl rfl
theorem tw_4_31 : (Jvm.Cond.selects "ToolCrib" ({ cls := "ToolCrib", name := "map", desc := "(II)I" } : Jvm.MethodName) ({ cls := "ToolCrib", name := "map", desc := "(II)I" } : Jvm.MethodName)) ∈ TB := tb_4 31 rfl rfl
theorem tw_4_32 : (Jvm.Cond.code ({ cls := "ToolCrib", name := "map", desc := "(II)I" } : Jvm.MethodName) prog_1_method_4_code (4 : Nat) (Option.some Jvm.ClassFile.FieldType.int)) ∈ TB := tb_4 32 rfl rfl
theorem tw_4_34 : (Jvm.Cond.methodLink "ToolCribLaw" (131 : Nat) ({ cls := "ToolCrib", name := "calibrate", desc := "(II)I" } : Jvm.MethodName)) ∈ TB := tb_4 34 rfl rfl
theorem tw_4_35 : (Jvm.Cond.instanceMethod ({ cls := "ToolCrib", name := "calibrate", desc := "(II)I" } : Jvm.MethodName)) ∈ TB := tb_4 35 rfl rfl
theorem tw_4_36 : (Jvm.Cond.selects "ToolCrib" ({ cls := "ToolCrib", name := "calibrate", desc := "(II)I" } : Jvm.MethodName) ({ cls := "ToolCrib", name := "calibrate", desc := "(II)I" } : Jvm.MethodName)) ∈ TB := tb_4 36 rfl rfl
theorem tw_4_37 : (Jvm.Cond.code ({ cls := "ToolCrib", name := "calibrate", desc := "(II)I" } : Jvm.MethodName) prog_1_method_16_code (4 : Nat) (Option.some Jvm.ClassFile.FieldType.int)) ∈ TB := tb_4 37 rfl rfl
theorem tw_4_38 : (Jvm.Cond.methodLink "ToolCrib" (225 : Nat) ({ cls := "ToolCrib", name := "gaugeAt", desc := "(I)LToolCrib$Gauge;" } : Jvm.MethodName)) ∈ TB := tb_4 38 rfl rfl
theorem tw_4_40 : (Jvm.Cond.instanceMethod ({ cls := "ToolCrib", name := "gaugeAt", desc := "(I)LToolCrib$Gauge;" } : Jvm.MethodName)) ∈ TB := tb_4 40 rfl rfl
theorem tw_4_41 : (Jvm.Cond.code ({ cls := "ToolCrib", name := "gaugeAt", desc := "(I)LToolCrib$Gauge;" } : Jvm.MethodName) prog_1_method_33_code (2 : Nat) (Option.some (Jvm.ClassFile.FieldType.object "ToolCrib$Gauge"))) ∈ TB := tb_4 41 rfl rfl
theorem tw_4_44 : (Jvm.Cond.methodLink "ToolCribLaw" (134 : Nat) ({ cls := "ToolCrib", name := "allow", desc := "(IIII)I" } : Jvm.MethodName)) ∈ TB := tb_4 44 rfl rfl
theorem tw_4_45 : (Jvm.Cond.instanceMethod ({ cls := "ToolCrib", name := "allow", desc := "(IIII)I" } : Jvm.MethodName)) ∈ TB := tb_4 45 rfl rfl
theorem tw_4_46 : (Jvm.Cond.selects "ToolCrib" ({ cls := "ToolCrib", name := "allow", desc := "(IIII)I" } : Jvm.MethodName) ({ cls := "ToolCrib", name := "allow", desc := "(IIII)I" } : Jvm.MethodName)) ∈ TB := tb_4 46 rfl rfl
theorem tw_4_47 : (Jvm.Cond.code ({ cls := "ToolCrib", name := "allow", desc := "(IIII)I" } : Jvm.MethodName) prog_1_method_19_code (6 : Nat) (Option.some Jvm.ClassFile.FieldType.int)) ∈ TB := tb_4 47 rfl rfl
theorem tw_4_50 : (Jvm.Cond.methodLink "ToolCrib" (265 : Nat) ({ cls := "ToolCrib$Drawing", name := "toleranceNow", desc := "(I)I" } : Jvm.MethodName)) ∈ TB := tb_4 50 rfl rfl
theorem tw_4_51 : (Jvm.Cond.instanceMethod ({ cls := "ToolCrib$Drawing", name := "toleranceNow", desc := "(I)I" } : Jvm.MethodName)) ∈ TB := tb_4 51 rfl rfl
theorem tw_4_52 : (Jvm.Cond.selects "ToolCrib$Drawing" ({ cls := "ToolCrib$Drawing", name := "toleranceNow", desc := "(I)I" } : Jvm.MethodName) ({ cls := "ToolCrib$Drawing", name := "toleranceNow", desc := "(I)I" } : Jvm.MethodName)) ∈ TB := tb_4 52 rfl rfl
theorem tw_4_53 : (Jvm.Cond.code ({ cls := "ToolCrib$Drawing", name := "toleranceNow", desc := "(I)I" } : Jvm.MethodName) prog_2_method_3_code (2 : Nat) (Option.some Jvm.ClassFile.FieldType.int)) ∈ TB := tb_4 53 rfl rfl
theorem tw_4_54 : (Jvm.Cond.methodLink "ToolCribLaw" (137 : Nat) ({ cls := "ToolCrib", name := "idle", desc := "(I)I" } : Jvm.MethodName)) ∈ TB := tb_4 54 rfl rfl
theorem tw_4_55 : (Jvm.Cond.instanceMethod ({ cls := "ToolCrib", name := "idle", desc := "(I)I" } : Jvm.MethodName)) ∈ TB := tb_4 55 rfl rfl
theorem tw_4_56 : (Jvm.Cond.selects "ToolCrib" ({ cls := "ToolCrib", name := "idle", desc := "(I)I" } : Jvm.MethodName) ({ cls := "ToolCrib", name := "idle", desc := "(I)I" } : Jvm.MethodName)) ∈ TB := tb_4 56 rfl rfl
theorem tw_4_57 : (Jvm.Cond.code ({ cls := "ToolCrib", name := "idle", desc := "(I)I" } : Jvm.MethodName) prog_1_method_15_code (2 : Nat) (Option.some Jvm.ClassFile.FieldType.int)) ∈ TB := tb_4 57 rfl rfl
theorem tw_4_59 : (Jvm.Cond.constant "ToolCrib" (219 : Nat) (1000000 : Int32)) ∈ TB := tb_4 59 rfl rfl
theorem tw_4_61 : (Jvm.Cond.methodLink "ToolCrib" (209 : Nat) ({ cls := "java/lang/Math", name := "max", desc := "(II)I" } : Jvm.MethodName)) ∈ TB := tb_4 61 rfl rfl
theorem tw_4_62 : (Jvm.Cond.methodLink "ToolCribLaw" (186 : Nat) ({ cls := "ToolCribLaw", name := "isJudged", desc := "(LToolCrib;[J[I[I[II)Z" } : Jvm.MethodName)) ∈ TB := tb_4 62 rfl rfl
theorem tw_4_63 : (Jvm.Cond.static ({ cls := "ToolCribLaw", name := "isJudged", desc := "(LToolCrib;[J[I[I[II)Z" } : Jvm.MethodName)) ∈ TB := tb_4 63 rfl rfl
theorem tw_4_64 : (Jvm.Cond.code ({ cls := "ToolCribLaw", name := "isJudged", desc := "(LToolCrib;[J[I[I[II)Z" } : Jvm.MethodName) method_17_code (15 : Nat) (Option.some Jvm.ClassFile.FieldType.boolean)) ∈ TB := tb_4 64 rfl rfl
theorem tw_4_65 : (Jvm.Cond.methodLink "ToolCribLaw" (63 : Nat) ({ cls := "ToolCribLaw", name := "size", desc := "(J)I" } : Jvm.MethodName)) ∈ TB := tb_4 65 rfl rfl
theorem tw_4_66 : (Jvm.Cond.static ({ cls := "ToolCribLaw", name := "size", desc := "(J)I" } : Jvm.MethodName)) ∈ TB := tb_4 66 rfl rfl
theorem tw_4_67 : (Jvm.Cond.code ({ cls := "ToolCribLaw", name := "size", desc := "(J)I" } : Jvm.MethodName) method_14_code (2 : Nat) (Option.some Jvm.ClassFile.FieldType.int)) ∈ TB := tb_4 67 rfl rfl
theorem tw_4_68 : (Jvm.Cond.methodLink "ToolCribLaw" (55 : Nat) ({ cls := "ToolCribLaw", name := "part", desc := "(JI)I" } : Jvm.MethodName)) ∈ TB := tb_4 68 rfl rfl
theorem tw_4_69 : (Jvm.Cond.static ({ cls := "ToolCribLaw", name := "part", desc := "(JI)I" } : Jvm.MethodName)) ∈ TB := tb_4 69 rfl rfl
theorem tw_4_70 : (Jvm.Cond.code ({ cls := "ToolCribLaw", name := "part", desc := "(JI)I" } : Jvm.MethodName) method_13_code (4 : Nat) (Option.some Jvm.ClassFile.FieldType.int)) ∈ TB := tb_4 70 rfl rfl
theorem tw_4_74 : (Jvm.Cond.methodLink "ToolCribLaw" (59 : Nat) ({ cls := "ToolCribLaw", name := "plain", desc := "(I)I" } : Jvm.MethodName)) ∈ TB := tb_4 74 rfl rfl
theorem tw_4_75 : (Jvm.Cond.static ({ cls := "ToolCribLaw", name := "plain", desc := "(I)I" } : Jvm.MethodName)) ∈ TB := tb_4 75 rfl rfl
theorem tw_4_76 : (Jvm.Cond.code ({ cls := "ToolCribLaw", name := "plain", desc := "(I)I" } : Jvm.MethodName) method_15_code (1 : Nat) (Option.some Jvm.ClassFile.FieldType.int)) ∈ TB := tb_4 76 rfl rfl
theorem tw_4_77 : (Jvm.Cond.methodLink "ToolCribLaw" (67 : Nat) ({ cls := "ToolCrib", name := "judge", desc := "(III)I" } : Jvm.MethodName)) ∈ TB := tb_4 77 rfl rfl
theorem tw_4_78 : (Jvm.Cond.instanceMethod ({ cls := "ToolCrib", name := "judge", desc := "(III)I" } : Jvm.MethodName)) ∈ TB := tb_4 78 rfl rfl
theorem tw_4_79 : (Jvm.Cond.selects "ToolCrib" ({ cls := "ToolCrib", name := "judge", desc := "(III)I" } : Jvm.MethodName) ({ cls := "ToolCrib", name := "judge", desc := "(III)I" } : Jvm.MethodName)) ∈ TB := tb_4 79 rfl rfl
theorem tw_4_80 : (Jvm.Cond.code ({ cls := "ToolCrib", name := "judge", desc := "(III)I" } : Jvm.MethodName) prog_1_method_20_code (11 : Nat) (Option.some Jvm.ClassFile.FieldType.int)) ∈ TB := tb_4 80 rfl rfl
theorem tw_4_81 : (Jvm.Cond.methodLink "ToolCrib" (268 : Nat) ({ cls := "ToolCrib$Gauge", name := "isGood", desc := "(I)Z" } : Jvm.MethodName)) ∈ TB := tb_4 81 rfl rfl
theorem tw_4_82 : (Jvm.Cond.instanceMethod ({ cls := "ToolCrib$Gauge", name := "isGood", desc := "(I)Z" } : Jvm.MethodName)) ∈ TB := tb_4 82 rfl rfl
theorem tw_4_83 : (Jvm.Cond.selects "ToolCrib$Gauge" ({ cls := "ToolCrib$Gauge", name := "isGood", desc := "(I)Z" } : Jvm.MethodName) ({ cls := "ToolCrib$Gauge", name := "isGood", desc := "(I)Z" } : Jvm.MethodName)) ∈ TB := tb_4 83 rfl rfl
theorem tw_4_84 : (Jvm.Cond.code ({ cls := "ToolCrib$Gauge", name := "isGood", desc := "(I)Z" } : Jvm.MethodName) prog_3_method_2_code (2 : Nat) (Option.some Jvm.ClassFile.FieldType.boolean)) ∈ TB := tb_4 84 rfl rfl
theorem tw_4_86 : (Jvm.Cond.classLink "ToolCrib" (274 : Nat) "ToolCrib$Paper") ∈ TB := tb_4 86 rfl rfl
theorem tw_4_87 : (Jvm.Cond.instantiable "ToolCrib$Paper" (7 : Nat)) ∈ TB := tb_4 87 rfl rfl
theorem tw_4_88 : (Jvm.Cond.methodLink "ToolCrib" (276 : Nat) ({ cls := "ToolCrib$Paper", name := "<init>", desc := "(IIII)V" } : Jvm.MethodName)) ∈ TB := tb_4 88 rfl rfl
theorem tw_4_89 : (Jvm.Cond.instanceMethod ({ cls := "ToolCrib$Paper", name := "<init>", desc := "(IIII)V" } : Jvm.MethodName)) ∈ TB := tb_4 89 rfl rfl
theorem tw_4_90 : (Jvm.Cond.code ({ cls := "ToolCrib$Paper", name := "<init>", desc := "(IIII)V" } : Jvm.MethodName) prog_5_method_1_code (5 : Nat) (Option.none : Option Jvm.ClassFile.FieldType)) ∈ TB := tb_4 90 rfl rfl
theorem tw_4_91 : (Jvm.Cond.methodLink "ToolCrib$Paper" (3 : Nat) ({ cls := "java/lang/Object", name := "<init>", desc := "()V" } : Jvm.MethodName)) ∈ TB := tb_4 91 rfl rfl
theorem tw_4_92 : (Jvm.Cond.fieldLink "ToolCrib$Paper" (18 : Nat) "ToolCrib$Paper" "pallet" "I") ∈ TB := tb_4 92 rfl rfl
theorem tw_4_93 : (Jvm.Cond.fieldLink "ToolCrib" (338 : Nat) "ToolCrib$Paper" "pallet" "I") ∈ TB := tb_4 93 rfl rfl
theorem tw_4_94 : (Jvm.Cond.fieldLink "ToolCrib$Paper" (22 : Nat) "ToolCrib$Paper" "drawing" "I") ∈ TB := tb_4 94 rfl rfl
theorem tw_4_95 : (Jvm.Cond.fieldLink "ToolCrib" (341 : Nat) "ToolCrib$Paper" "drawing" "I") ∈ TB := tb_4 95 rfl rfl
theorem tw_4_96 : (Jvm.Cond.fieldLink "ToolCrib$Paper" (25 : Nat) "ToolCrib$Paper" "written" "I") ∈ TB := tb_4 96 rfl rfl
theorem tw_4_97 : (Jvm.Cond.fieldLink "ToolCrib" (344 : Nat) "ToolCrib$Paper" "written" "I") ∈ TB := tb_4 97 rfl rfl
theorem tw_4_98 : (Jvm.Cond.fieldLink "ToolCrib$Paper" (28 : Nat) "ToolCrib$Paper" "doubt" "I") ∈ TB := tb_4 98 rfl rfl
theorem tw_4_99 : (Jvm.Cond.fieldLink "ToolCrib" (347 : Nat) "ToolCrib$Paper" "doubt" "I") ∈ TB := tb_4 99 rfl rfl
theorem tw_4_100 : (Jvm.Cond.fieldLink "ToolCrib$Paper" (9 : Nat) "ToolCrib$Paper" "aways" "[I") ∈ TB := tb_4 100 rfl rfl
theorem tw_4_101 : (Jvm.Cond.fieldLink "ToolCrib" (348 : Nat) "ToolCrib$Paper" "aways" "[I") ∈ TB := tb_4 101 rfl rfl
theorem tw_4_102 : (Jvm.Cond.fieldLink "ToolCrib$Paper" (15 : Nat) "ToolCrib$Paper" "tolerances" "[I") ∈ TB := tb_4 102 rfl rfl
theorem tw_4_103 : (Jvm.Cond.fieldLink "ToolCrib$Paper" (31 : Nat) "ToolCrib$Paper" "size" "I") ∈ TB := tb_4 103 rfl rfl
theorem tw_4_104 : (Jvm.Cond.laysFinal "ToolCrib$Paper" "ToolCrib$Paper" "pallet" "I") ∈ TB := tb_4 104 rfl rfl
theorem tw_4_106 : (Jvm.Cond.laysFinal "ToolCrib$Paper" "ToolCrib$Paper" "drawing" "I") ∈ TB := tb_4 106 rfl rfl
theorem tw_4_108 : (Jvm.Cond.laysFinal "ToolCrib$Paper" "ToolCrib$Paper" "written" "I") ∈ TB := tb_4 108 rfl rfl
theorem tw_4_110 : (Jvm.Cond.laysFinal "ToolCrib$Paper" "ToolCrib$Paper" "doubt" "I") ∈ TB := tb_4 110 rfl rfl
theorem tw_4_112 : (Jvm.Cond.laysFinal "ToolCrib$Paper" "ToolCrib$Paper" "aways" "[I") ∈ TB := tb_4 112 rfl rfl
theorem tw_4_114 : (Jvm.Cond.laysFinal "ToolCrib$Paper" "ToolCrib$Paper" "tolerances" "[I") ∈ TB := tb_4 114 rfl rfl
theorem tw_4_116 : (Jvm.Cond.lays "ToolCrib$Paper" "ToolCrib$Paper" "size" "I") ∈ TB := tb_4 116 rfl rfl
theorem tw_4_119 : (Jvm.Cond.methodLink "ToolCrib" (285 : Nat) ({ cls := "ToolCrib$Gauge", name := "reads", desc := "(II)I" } : Jvm.MethodName)) ∈ TB := tb_4 119 rfl rfl
theorem tw_4_120 : (Jvm.Cond.instanceMethod ({ cls := "ToolCrib$Gauge", name := "reads", desc := "(II)I" } : Jvm.MethodName)) ∈ TB := tb_4 120 rfl rfl
theorem tw_4_121 : (Jvm.Cond.selects "ToolCrib$Gauge" ({ cls := "ToolCrib$Gauge", name := "reads", desc := "(II)I" } : Jvm.MethodName) ({ cls := "ToolCrib$Gauge", name := "reads", desc := "(II)I" } : Jvm.MethodName)) ∈ TB := tb_4 121 rfl rfl
theorem tw_4_122 : (Jvm.Cond.code ({ cls := "ToolCrib$Gauge", name := "reads", desc := "(II)I" } : Jvm.MethodName) prog_3_method_3_code (3 : Nat) (Option.some Jvm.ClassFile.FieldType.int)) ∈ TB := tb_4 122 rfl rfl
theorem tw_4_123 : (Jvm.Cond.methodLink "ToolCrib" (291 : Nat) ({ cls := "ToolCrib$Paper", name := "append", desc := "(II)V" } : Jvm.MethodName)) ∈ TB := tb_4 123 rfl rfl
theorem tw_4_124 : (Jvm.Cond.instanceMethod ({ cls := "ToolCrib$Paper", name := "append", desc := "(II)V" } : Jvm.MethodName)) ∈ TB := tb_4 124 rfl rfl
theorem tw_4_125 : (Jvm.Cond.selects "ToolCrib$Paper" ({ cls := "ToolCrib$Paper", name := "append", desc := "(II)V" } : Jvm.MethodName) ({ cls := "ToolCrib$Paper", name := "append", desc := "(II)V" } : Jvm.MethodName)) ∈ TB := tb_4 125 rfl rfl
theorem tw_4_126 : (Jvm.Cond.code ({ cls := "ToolCrib$Paper", name := "append", desc := "(II)V" } : Jvm.MethodName) prog_5_method_2_code (3 : Nat) (Option.none : Option Jvm.ClassFile.FieldType)) ∈ TB := tb_4 126 rfl rfl
theorem tw_4_127 : (Jvm.Cond.methodLink "ToolCrib" (295 : Nat) ({ cls := "ToolCrib", name := "tell", desc := "(II)V" } : Jvm.MethodName)) ∈ TB := tb_4 127 rfl rfl
theorem tw_4_129 : (Jvm.Cond.instanceMethod ({ cls := "ToolCrib", name := "tell", desc := "(II)V" } : Jvm.MethodName)) ∈ TB := tb_4 129 rfl rfl
theorem tw_4_130 : (Jvm.Cond.code ({ cls := "ToolCrib", name := "tell", desc := "(II)V" } : Jvm.MethodName) prog_1_method_42_code (3 : Nat) (Option.none : Option Jvm.ClassFile.FieldType)) ∈ TB := tb_4 130 rfl rfl
theorem tw_4_131 : (Jvm.Cond.methodLink "ToolCrib" (368 : Nat) ({ cls := "ToolCrib$Tool", name := "hear", desc := "(I)V" } : Jvm.MethodName)) ∈ TB := tb_4 131 rfl rfl
theorem tw_4_132 : (Jvm.Cond.instanceMethod ({ cls := "ToolCrib$Tool", name := "hear", desc := "(I)V" } : Jvm.MethodName)) ∈ TB := tb_4 132 rfl rfl
theorem tw_4_133 : (Jvm.Cond.selects "ToolCrib$Tool" ({ cls := "ToolCrib$Tool", name := "hear", desc := "(I)V" } : Jvm.MethodName) ({ cls := "ToolCrib$Tool", name := "hear", desc := "(I)V" } : Jvm.MethodName)) ∈ TB := tb_4 133 rfl rfl
theorem tw_4_134 : (Jvm.Cond.code ({ cls := "ToolCrib$Tool", name := "hear", desc := "(I)V" } : Jvm.MethodName) prog_7_method_3_code (2 : Nat) (Option.none : Option Jvm.ClassFile.FieldType)) ∈ TB := tb_4 134 rfl rfl
theorem tw_4_135 : (Jvm.Cond.methodLink "ToolCrib" (298 : Nat) ({ cls := "ToolCrib$Drawing", name := "spendPaper", desc := "()V" } : Jvm.MethodName)) ∈ TB := tb_4 135 rfl rfl
theorem tw_4_136 : (Jvm.Cond.instanceMethod ({ cls := "ToolCrib$Drawing", name := "spendPaper", desc := "()V" } : Jvm.MethodName)) ∈ TB := tb_4 136 rfl rfl
theorem tw_4_137 : (Jvm.Cond.selects "ToolCrib$Drawing" ({ cls := "ToolCrib$Drawing", name := "spendPaper", desc := "()V" } : Jvm.MethodName) ({ cls := "ToolCrib$Drawing", name := "spendPaper", desc := "()V" } : Jvm.MethodName)) ∈ TB := tb_4 137 rfl rfl
theorem tw_4_138 : (Jvm.Cond.code ({ cls := "ToolCrib$Drawing", name := "spendPaper", desc := "()V" } : Jvm.MethodName) prog_2_method_4_code (2 : Nat) (Option.none : Option Jvm.ClassFile.FieldType)) ∈ TB := tb_4 138 rfl rfl
theorem tw_4_139 : (Jvm.Cond.methodLink "ToolCrib$Drawing" (31 : Nat) ({ cls := "java/lang/Math", name := "max", desc := "(II)I" } : Jvm.MethodName)) ∈ TB := tb_4 139 rfl rfl
theorem tw_4_140 : (Jvm.Cond.methodLink "ToolCrib" (301 : Nat) ({ cls := "ToolCrib$Paper", name := "verdict", desc := "()I" } : Jvm.MethodName)) ∈ TB := tb_4 140 rfl rfl
theorem tw_4_141 : (Jvm.Cond.instanceMethod ({ cls := "ToolCrib$Paper", name := "verdict", desc := "()I" } : Jvm.MethodName)) ∈ TB := tb_4 141 rfl rfl
theorem tw_4_142 : (Jvm.Cond.selects "ToolCrib$Paper" ({ cls := "ToolCrib$Paper", name := "verdict", desc := "()I" } : Jvm.MethodName) ({ cls := "ToolCrib$Paper", name := "verdict", desc := "()I" } : Jvm.MethodName)) ∈ TB := tb_4 142 rfl rfl
theorem tw_4_143 : (Jvm.Cond.code ({ cls := "ToolCrib$Paper", name := "verdict", desc := "()I" } : Jvm.MethodName) prog_5_method_3_code (4 : Nat) (Option.some Jvm.ClassFile.FieldType.int)) ∈ TB := tb_4 143 rfl rfl
theorem tw_4_144 : (Jvm.Cond.methodLink "ToolCrib$Paper" (34 : Nat) ({ cls := "java/lang/Math", name := "abs", desc := "(I)I" } : Jvm.MethodName)) ∈ TB := tb_4 144 rfl rfl
theorem tw_4_145 : (Jvm.Cond.methodLink "ToolCribLaw" (73 : Nat) ({ cls := "ToolCrib", name := "judgeAnew", desc := "(I)I" } : Jvm.MethodName)) ∈ TB := tb_4 145 rfl rfl
theorem tw_4_146 : (Jvm.Cond.instanceMethod ({ cls := "ToolCrib", name := "judgeAnew", desc := "(I)I" } : Jvm.MethodName)) ∈ TB := tb_4 146 rfl rfl
theorem tw_4_147 : (Jvm.Cond.selects "ToolCrib" ({ cls := "ToolCrib", name := "judgeAnew", desc := "(I)I" } : Jvm.MethodName) ({ cls := "ToolCrib", name := "judgeAnew", desc := "(I)I" } : Jvm.MethodName)) ∈ TB := tb_4 147 rfl rfl
theorem tw_4_148 : (Jvm.Cond.code ({ cls := "ToolCrib", name := "judgeAnew", desc := "(I)I" } : Jvm.MethodName) prog_1_method_28_code (2 : Nat) (Option.some Jvm.ClassFile.FieldType.int)) ∈ TB := tb_4 148 rfl rfl
theorem tw_4_149 : (Jvm.Cond.methodLink "ToolCrib" (334 : Nat) ({ cls := "ToolCrib", name := "paperAt", desc := "(I)LToolCrib$Paper;" } : Jvm.MethodName)) ∈ TB := tb_4 149 rfl rfl
theorem tw_4_151 : (Jvm.Cond.instanceMethod ({ cls := "ToolCrib", name := "paperAt", desc := "(I)LToolCrib$Paper;" } : Jvm.MethodName)) ∈ TB := tb_4 151 rfl rfl
theorem tw_4_152 : (Jvm.Cond.code ({ cls := "ToolCrib", name := "paperAt", desc := "(I)LToolCrib$Paper;" } : Jvm.MethodName) prog_1_method_35_code (2 : Nat) (Option.some (Jvm.ClassFile.FieldType.object "ToolCrib$Paper"))) ∈ TB := tb_4 152 rfl rfl
theorem tw_4_154 : (Jvm.Cond.methodLink "ToolCribLaw" (190 : Nat) ({ cls := "ToolCribLaw", name := "corrected", desc := "([II)I" } : Jvm.MethodName)) ∈ TB := tb_4 154 rfl rfl
theorem tw_4_155 : (Jvm.Cond.static ({ cls := "ToolCribLaw", name := "corrected", desc := "([II)I" } : Jvm.MethodName)) ∈ TB := tb_4 155 rfl rfl
theorem tw_4_156 : (Jvm.Cond.code ({ cls := "ToolCribLaw", name := "corrected", desc := "([II)I" } : Jvm.MethodName) method_18_code (7 : Nat) (Option.some Jvm.ClassFile.FieldType.int)) ∈ TB := tb_4 156 rfl rfl
theorem tw_4_157 : (Jvm.Cond.methodLink "ToolCribLaw" (193 : Nat) ({ cls := "ToolCrib", name := "correct", desc := "(I)I" } : Jvm.MethodName)) ∈ TB := tb_4 157 rfl rfl
theorem tw_4_158 : (Jvm.Cond.instanceMethod ({ cls := "ToolCrib", name := "correct", desc := "(I)I" } : Jvm.MethodName)) ∈ TB := tb_4 158 rfl rfl
theorem tw_4_159 : (Jvm.Cond.selects "ToolCrib" ({ cls := "ToolCrib", name := "correct", desc := "(I)I" } : Jvm.MethodName) ({ cls := "ToolCrib", name := "correct", desc := "(I)I" } : Jvm.MethodName)) ∈ TB := tb_4 159 rfl rfl
theorem tw_4_160 : (Jvm.Cond.code ({ cls := "ToolCrib", name := "correct", desc := "(I)I" } : Jvm.MethodName) prog_1_method_21_code (2 : Nat) (Option.some Jvm.ClassFile.FieldType.int)) ∈ TB := tb_4 160 rfl rfl
theorem tw_4_161 : (Jvm.Cond.methodLink "ToolCrib" (307 : Nat) ({ cls := "ToolCrib$Tool", name := "correctOffset", desc := "()I" } : Jvm.MethodName)) ∈ TB := tb_4 161 rfl rfl
theorem tw_4_162 : (Jvm.Cond.instanceMethod ({ cls := "ToolCrib$Tool", name := "correctOffset", desc := "()I" } : Jvm.MethodName)) ∈ TB := tb_4 162 rfl rfl
theorem tw_4_163 : (Jvm.Cond.selects "ToolCrib$Tool" ({ cls := "ToolCrib$Tool", name := "correctOffset", desc := "()I" } : Jvm.MethodName) ({ cls := "ToolCrib$Tool", name := "correctOffset", desc := "()I" } : Jvm.MethodName)) ∈ TB := tb_4 163 rfl rfl
theorem tw_4_164 : (Jvm.Cond.code ({ cls := "ToolCrib$Tool", name := "correctOffset", desc := "()I" } : Jvm.MethodName) prog_7_method_4_code (3 : Nat) (Option.some Jvm.ClassFile.FieldType.int)) ∈ TB := tb_4 164 rfl rfl
theorem tw_4_165 : (Jvm.Cond.methodLink "ToolCrib$Tool" (35 : Nat) ({ cls := "ToolCrib$Tool", name := "isOneWay", desc := "()Z" } : Jvm.MethodName)) ∈ TB := tb_4 165 rfl rfl
theorem tw_4_167 : (Jvm.Cond.instanceMethod ({ cls := "ToolCrib$Tool", name := "isOneWay", desc := "()Z" } : Jvm.MethodName)) ∈ TB := tb_4 167 rfl rfl
theorem tw_4_168 : (Jvm.Cond.code ({ cls := "ToolCrib$Tool", name := "isOneWay", desc := "()Z" } : Jvm.MethodName) prog_7_method_5_code (4 : Nat) (Option.some Jvm.ClassFile.FieldType.boolean)) ∈ TB := tb_4 168 rfl rfl
theorem tw_4_169 : (Jvm.Cond.methodLink "ToolCrib$Tool" (42 : Nat) ({ cls := "java/lang/Math", name := "min", desc := "(II)I" } : Jvm.MethodName)) ∈ TB := tb_4 169 rfl rfl
theorem tw_4_170 : (Jvm.Cond.methodLink "ToolCrib$Tool" (48 : Nat) ({ cls := "java/lang/Math", name := "max", desc := "(II)I" } : Jvm.MethodName)) ∈ TB := tb_4 170 rfl rfl
theorem tw_4_171 : (Jvm.Cond.methodLink "ToolCribLaw" (196 : Nat) ({ cls := "ToolCribLaw", name := "isClamp", desc := "(LToolCrib;[J[III)Z" } : Jvm.MethodName)) ∈ TB := tb_4 171 rfl rfl
theorem tw_4_172 : (Jvm.Cond.static ({ cls := "ToolCribLaw", name := "isClamp", desc := "(LToolCrib;[J[III)Z" } : Jvm.MethodName)) ∈ TB := tb_4 172 rfl rfl
theorem tw_4_173 : (Jvm.Cond.code ({ cls := "ToolCribLaw", name := "isClamp", desc := "(LToolCrib;[J[III)Z" } : Jvm.MethodName) method_23_code (9 : Nat) (Option.some Jvm.ClassFile.FieldType.boolean)) ∈ TB := tb_4 173 rfl rfl
theorem tw_4_174 : (Jvm.Cond.methodLink "ToolCribLaw" (140 : Nat) ({ cls := "ToolCrib", name := "clamp", desc := "(IIII)I" } : Jvm.MethodName)) ∈ TB := tb_4 174 rfl rfl
theorem tw_4_175 : (Jvm.Cond.instanceMethod ({ cls := "ToolCrib", name := "clamp", desc := "(IIII)I" } : Jvm.MethodName)) ∈ TB := tb_4 175 rfl rfl
theorem tw_4_176 : (Jvm.Cond.selects "ToolCrib" ({ cls := "ToolCrib", name := "clamp", desc := "(IIII)I" } : Jvm.MethodName) ({ cls := "ToolCrib", name := "clamp", desc := "(IIII)I" } : Jvm.MethodName)) ∈ TB := tb_4 176 rfl rfl
theorem tw_4_177 : (Jvm.Cond.code ({ cls := "ToolCrib", name := "clamp", desc := "(IIII)I" } : Jvm.MethodName) prog_1_method_8_code (7 : Nat) (Option.some Jvm.ClassFile.FieldType.int)) ∈ TB := tb_4 177 rfl rfl
theorem tw_4_180 : (Jvm.Cond.methodLink "ToolCribLaw" (200 : Nat) ({ cls := "ToolCribLaw", name := "isSame", desc := "(LToolCrib;[J[J[I[I[I[I[II)Z" } : Jvm.MethodName)) ∈ TB := tb_4 180 rfl rfl
theorem tw_4_181 : (Jvm.Cond.static ({ cls := "ToolCribLaw", name := "isSame", desc := "(LToolCrib;[J[J[I[I[I[I[II)Z" } : Jvm.MethodName)) ∈ TB := tb_4 181 rfl rfl
theorem tw_4_182 : (Jvm.Cond.code ({ cls := "ToolCribLaw", name := "isSame", desc := "(LToolCrib;[J[J[I[I[I[I[II)Z" } : Jvm.MethodName) method_19_code (20 : Nat) (Option.some Jvm.ClassFile.FieldType.boolean)) ∈ TB := tb_4 182 rfl rfl
theorem tw_4_183 : (Jvm.Cond.methodLink "ToolCribLaw" (76 : Nat) ({ cls := "ToolCrib", name := "ofCell", desc := "(IIII)I" } : Jvm.MethodName)) ∈ TB := tb_4 183 rfl rfl
theorem tw_4_184 : (Jvm.Cond.instanceMethod ({ cls := "ToolCrib", name := "ofCell", desc := "(IIII)I" } : Jvm.MethodName)) ∈ TB := tb_4 184 rfl rfl
theorem tw_4_185 : (Jvm.Cond.selects "ToolCrib" ({ cls := "ToolCrib", name := "ofCell", desc := "(IIII)I" } : Jvm.MethodName) ({ cls := "ToolCrib", name := "ofCell", desc := "(IIII)I" } : Jvm.MethodName)) ∈ TB := tb_4 185 rfl rfl
theorem tw_4_186 : (Jvm.Cond.code ({ cls := "ToolCrib", name := "ofCell", desc := "(IIII)I" } : Jvm.MethodName) prog_1_method_25_code (7 : Nat) (Option.some Jvm.ClassFile.FieldType.int)) ∈ TB := tb_4 186 rfl rfl
theorem tw_4_188 : (Jvm.Cond.methodLink "ToolCribLaw" (80 : Nat) ({ cls := "ToolCribLaw", name := "cause", desc := "(J)I" } : Jvm.MethodName)) ∈ TB := tb_4 188 rfl rfl
theorem tw_4_189 : (Jvm.Cond.static ({ cls := "ToolCribLaw", name := "cause", desc := "(J)I" } : Jvm.MethodName)) ∈ TB := tb_4 189 rfl rfl
theorem tw_4_190 : (Jvm.Cond.code ({ cls := "ToolCribLaw", name := "cause", desc := "(J)I" } : Jvm.MethodName) method_16_code (4 : Nat) (Option.some Jvm.ClassFile.FieldType.int)) ∈ TB := tb_4 190 rfl rfl
theorem tw_4_191 : (Jvm.Cond.methodLink "ToolCribLaw" (83 : Nat) ({ cls := "ToolCrib", name := "minute", desc := "()I" } : Jvm.MethodName)) ∈ TB := tb_4 191 rfl rfl
theorem tw_4_192 : (Jvm.Cond.instanceMethod ({ cls := "ToolCrib", name := "minute", desc := "()I" } : Jvm.MethodName)) ∈ TB := tb_4 192 rfl rfl
theorem tw_4_193 : (Jvm.Cond.selects "ToolCrib" ({ cls := "ToolCrib", name := "minute", desc := "()I" } : Jvm.MethodName) ({ cls := "ToolCrib", name := "minute", desc := "()I" } : Jvm.MethodName)) ∈ TB := tb_4 193 rfl rfl
theorem tw_4_194 : (Jvm.Cond.code ({ cls := "ToolCrib", name := "minute", desc := "()I" } : Jvm.MethodName) prog_1_method_22_code (1 : Nat) (Option.some Jvm.ClassFile.FieldType.int)) ∈ TB := tb_4 194 rfl rfl
theorem tw_4_195 : (Jvm.Cond.methodLink "ToolCribLaw" (87 : Nat) ({ cls := "ToolCrib", name := "warmth", desc := "()I" } : Jvm.MethodName)) ∈ TB := tb_4 195 rfl rfl
theorem tw_4_196 : (Jvm.Cond.instanceMethod ({ cls := "ToolCrib", name := "warmth", desc := "()I" } : Jvm.MethodName)) ∈ TB := tb_4 196 rfl rfl
theorem tw_4_197 : (Jvm.Cond.selects "ToolCrib" ({ cls := "ToolCrib", name := "warmth", desc := "()I" } : Jvm.MethodName) ({ cls := "ToolCrib", name := "warmth", desc := "()I" } : Jvm.MethodName)) ∈ TB := tb_4 197 rfl rfl
theorem tw_4_198 : (Jvm.Cond.code ({ cls := "ToolCrib", name := "warmth", desc := "()I" } : Jvm.MethodName) prog_1_method_23_code (1 : Nat) (Option.some Jvm.ClassFile.FieldType.int)) ∈ TB := tb_4 198 rfl rfl
theorem tw_4_199 : (Jvm.Cond.methodLink "ToolCribLaw" (90 : Nat) ({ cls := "ToolCrib", name := "ofPallet", desc := "(II)I" } : Jvm.MethodName)) ∈ TB := tb_4 199 rfl rfl
theorem tw_4_200 : (Jvm.Cond.instanceMethod ({ cls := "ToolCrib", name := "ofPallet", desc := "(II)I" } : Jvm.MethodName)) ∈ TB := tb_4 200 rfl rfl
theorem tw_4_201 : (Jvm.Cond.selects "ToolCrib" ({ cls := "ToolCrib", name := "ofPallet", desc := "(II)I" } : Jvm.MethodName) ({ cls := "ToolCrib", name := "ofPallet", desc := "(II)I" } : Jvm.MethodName)) ∈ TB := tb_4 201 rfl rfl
theorem tw_4_202 : (Jvm.Cond.code ({ cls := "ToolCrib", name := "ofPallet", desc := "(II)I" } : Jvm.MethodName) prog_1_method_26_code (4 : Nat) (Option.some Jvm.ClassFile.FieldType.int)) ∈ TB := tb_4 202 rfl rfl
theorem tw_4_203 : (Jvm.Cond.methodLink "ToolCrib" (330 : Nat) ({ cls := "ToolCrib", name := "placeInQueue", desc := "(LToolCrib$Pallet;)I" } : Jvm.MethodName)) ∈ TB := tb_4 203 rfl rfl
theorem tw_4_205 : (Jvm.Cond.instanceMethod ({ cls := "ToolCrib", name := "placeInQueue", desc := "(LToolCrib$Pallet;)I" } : Jvm.MethodName)) ∈ TB := tb_4 205 rfl rfl
theorem tw_4_206 : (Jvm.Cond.code ({ cls := "ToolCrib", name := "placeInQueue", desc := "(LToolCrib$Pallet;)I" } : Jvm.MethodName) prog_1_method_38_code (3 : Nat) (Option.some Jvm.ClassFile.FieldType.int)) ∈ TB := tb_4 206 rfl rfl
theorem tw_4_207 : (Jvm.Cond.methodLink "ToolCribLaw" (94 : Nat) ({ cls := "ToolCrib", name := "ofTool", desc := "(II)I" } : Jvm.MethodName)) ∈ TB := tb_4 207 rfl rfl
theorem tw_4_208 : (Jvm.Cond.instanceMethod ({ cls := "ToolCrib", name := "ofTool", desc := "(II)I" } : Jvm.MethodName)) ∈ TB := tb_4 208 rfl rfl
theorem tw_4_209 : (Jvm.Cond.selects "ToolCrib" ({ cls := "ToolCrib", name := "ofTool", desc := "(II)I" } : Jvm.MethodName) ({ cls := "ToolCrib", name := "ofTool", desc := "(II)I" } : Jvm.MethodName)) ∈ TB := tb_4 209 rfl rfl
theorem tw_4_210 : (Jvm.Cond.code ({ cls := "ToolCrib", name := "ofTool", desc := "(II)I" } : Jvm.MethodName) prog_1_method_24_code (4 : Nat) (Option.some Jvm.ClassFile.FieldType.int)) ∈ TB := tb_4 210 rfl rfl
theorem tw_4_211 : (Jvm.Cond.methodLink "ToolCribLaw" (97 : Nat) ({ cls := "ToolCrib", name := "prove", desc := "(II)I" } : Jvm.MethodName)) ∈ TB := tb_4 211 rfl rfl
theorem tw_4_212 : (Jvm.Cond.instanceMethod ({ cls := "ToolCrib", name := "prove", desc := "(II)I" } : Jvm.MethodName)) ∈ TB := tb_4 212 rfl rfl
theorem tw_4_213 : (Jvm.Cond.selects "ToolCrib" ({ cls := "ToolCrib", name := "prove", desc := "(II)I" } : Jvm.MethodName) ({ cls := "ToolCrib", name := "prove", desc := "(II)I" } : Jvm.MethodName)) ∈ TB := tb_4 213 rfl rfl
theorem tw_4_214 : (Jvm.Cond.code ({ cls := "ToolCrib", name := "prove", desc := "(II)I" } : Jvm.MethodName) prog_1_method_9_code (3 : Nat) (Option.some Jvm.ClassFile.FieldType.int)) ∈ TB := tb_4 214 rfl rfl
theorem tw_4_215 : (Jvm.Cond.methodLink "ToolCribLaw" (100 : Nat) ({ cls := "ToolCrib", name := "takes", desc := "(II)I" } : Jvm.MethodName)) ∈ TB := tb_4 215 rfl rfl
theorem tw_4_216 : (Jvm.Cond.instanceMethod ({ cls := "ToolCrib", name := "takes", desc := "(II)I" } : Jvm.MethodName)) ∈ TB := tb_4 216 rfl rfl
theorem tw_4_217 : (Jvm.Cond.selects "ToolCrib" ({ cls := "ToolCrib", name := "takes", desc := "(II)I" } : Jvm.MethodName) ({ cls := "ToolCrib", name := "takes", desc := "(II)I" } : Jvm.MethodName)) ∈ TB := tb_4 217 rfl rfl
theorem tw_4_218 : (Jvm.Cond.code ({ cls := "ToolCrib", name := "takes", desc := "(II)I" } : Jvm.MethodName) prog_1_method_10_code (3 : Nat) (Option.some Jvm.ClassFile.FieldType.int)) ∈ TB := tb_4 218 rfl rfl
theorem tw_4_219 : (Jvm.Cond.methodLink "ToolCribLaw" (103 : Nat) ({ cls := "ToolCrib", name := "foresees", desc := "()I" } : Jvm.MethodName)) ∈ TB := tb_4 219 rfl rfl
theorem tw_4_220 : (Jvm.Cond.instanceMethod ({ cls := "ToolCrib", name := "foresees", desc := "()I" } : Jvm.MethodName)) ∈ TB := tb_4 220 rfl rfl
theorem tw_4_221 : (Jvm.Cond.selects "ToolCrib" ({ cls := "ToolCrib", name := "foresees", desc := "()I" } : Jvm.MethodName) ({ cls := "ToolCrib", name := "foresees", desc := "()I" } : Jvm.MethodName)) ∈ TB := tb_4 221 rfl rfl
theorem tw_4_222 : (Jvm.Cond.code ({ cls := "ToolCrib", name := "foresees", desc := "()I" } : Jvm.MethodName) prog_1_method_13_code (2 : Nat) (Option.some Jvm.ClassFile.FieldType.int)) ∈ TB := tb_4 222 rfl rfl
theorem tw_4_223 : (Jvm.Cond.methodLink "ToolCrib" (190 : Nat) ({ cls := "ToolCrib", name := "countLeft", desc := "(I)I" } : Jvm.MethodName)) ∈ TB := tb_4 223 rfl rfl
theorem tw_4_225 : (Jvm.Cond.instanceMethod ({ cls := "ToolCrib", name := "countLeft", desc := "(I)I" } : Jvm.MethodName)) ∈ TB := tb_4 225 rfl rfl
theorem tw_4_226 : (Jvm.Cond.code ({ cls := "ToolCrib", name := "countLeft", desc := "(I)I" } : Jvm.MethodName) prog_1_method_40_code (4 : Nat) (Option.some Jvm.ClassFile.FieldType.int)) ∈ TB := tb_4 226 rfl rfl
theorem tw_4_227 : (Jvm.Cond.methodLink "ToolCrib" (194 : Nat) ({ cls := "ToolCrib", name := "isEnoughFor", desc := "(LToolCrib$Pallet;)Z" } : Jvm.MethodName)) ∈ TB := tb_4 227 rfl rfl
theorem tw_4_229 : (Jvm.Cond.instanceMethod ({ cls := "ToolCrib", name := "isEnoughFor", desc := "(LToolCrib$Pallet;)Z" } : Jvm.MethodName)) ∈ TB := tb_4 229 rfl rfl
theorem tw_4_230 : (Jvm.Cond.code ({ cls := "ToolCrib", name := "isEnoughFor", desc := "(LToolCrib$Pallet;)Z" } : Jvm.MethodName) prog_1_method_44_code (3 : Nat) (Option.some Jvm.ClassFile.FieldType.boolean)) ∈ TB := tb_4 230 rfl rfl
theorem tw_4_231 : (Jvm.Cond.methodLink "ToolCribLaw" (106 : Nat) ({ cls := "ToolCribLaw", name := "foreseen", desc := "([J[J[I[I[I[I[I)I" } : Jvm.MethodName)) ∈ TB := tb_4 231 rfl rfl
theorem tw_4_232 : (Jvm.Cond.static ({ cls := "ToolCribLaw", name := "foreseen", desc := "([J[J[I[I[I[I[I)I" } : Jvm.MethodName)) ∈ TB := tb_4 232 rfl rfl
theorem tw_4_233 : (Jvm.Cond.code ({ cls := "ToolCribLaw", name := "foreseen", desc := "([J[J[I[I[I[I[I)I" } : Jvm.MethodName) method_11_code (7 : Nat) (Option.some Jvm.ClassFile.FieldType.int)) ∈ TB := tb_4 233 rfl rfl
theorem tw_4_234 : (Jvm.Cond.methodLink "ToolCribLaw" (41 : Nat) ({ cls := "ToolCribLaw", name := "kept", desc := "([I)[I" } : Jvm.MethodName)) ∈ TB := tb_4 234 rfl rfl
theorem tw_4_235 : (Jvm.Cond.static ({ cls := "ToolCribLaw", name := "kept", desc := "([I)[I" } : Jvm.MethodName)) ∈ TB := tb_4 235 rfl rfl
theorem tw_4_236 : (Jvm.Cond.code ({ cls := "ToolCribLaw", name := "kept", desc := "([I)[I" } : Jvm.MethodName) method_9_code (3 : Nat) (Option.some (Jvm.ClassFile.FieldType.array Jvm.ClassFile.FieldType.int))) ∈ TB := tb_4 236 rfl rfl
theorem tw_4_237 : (Jvm.Cond.methodLink "ToolCribLaw" (109 : Nat) ({ cls := "ToolCrib", name := "lacks", desc := "(I)I" } : Jvm.MethodName)) ∈ TB := tb_4 237 rfl rfl
theorem tw_4_238 : (Jvm.Cond.instanceMethod ({ cls := "ToolCrib", name := "lacks", desc := "(I)I" } : Jvm.MethodName)) ∈ TB := tb_4 238 rfl rfl
theorem tw_4_239 : (Jvm.Cond.selects "ToolCrib" ({ cls := "ToolCrib", name := "lacks", desc := "(I)I" } : Jvm.MethodName) ({ cls := "ToolCrib", name := "lacks", desc := "(I)I" } : Jvm.MethodName)) ∈ TB := tb_4 239 rfl rfl
theorem tw_5_0 : (Jvm.Cond.code ({ cls := "ToolCrib", name := "lacks", desc := "(I)I" } : Jvm.MethodName) prog_1_method_14_code (5 : Nat) (Option.some Jvm.ClassFile.FieldType.int)) ∈ TB := tb_5 0 rfl rfl
theorem tw_5_2 : (Jvm.Cond.methodLink "ToolCribLaw" (112 : Nat) ({ cls := "ToolCribLaw", name := "lacks", desc := "([J[J[I[I[I[I[II)I" } : Jvm.MethodName)) ∈ TB := tb_5 2 rfl rfl
theorem tw_5_3 : (Jvm.Cond.static ({ cls := "ToolCribLaw", name := "lacks", desc := "([J[J[I[I[I[I[II)I" } : Jvm.MethodName)) ∈ TB := tb_5 3 rfl rfl
theorem tw_5_4 : (Jvm.Cond.code ({ cls := "ToolCribLaw", name := "lacks", desc := "([J[J[I[I[I[I[II)I" } : Jvm.MethodName) method_12_code (12 : Nat) (Option.some Jvm.ClassFile.FieldType.int)) ∈ TB := tb_5 4 rfl rfl
theorem tw_5_5 : (Jvm.Cond.methodLink "ToolCribLaw" (115 : Nat) ({ cls := "ToolCrib", name := "ofPaper", desc := "(II)I" } : Jvm.MethodName)) ∈ TB := tb_5 5 rfl rfl
theorem tw_5_6 : (Jvm.Cond.instanceMethod ({ cls := "ToolCrib", name := "ofPaper", desc := "(II)I" } : Jvm.MethodName)) ∈ TB := tb_5 6 rfl rfl
theorem tw_5_7 : (Jvm.Cond.selects "ToolCrib" ({ cls := "ToolCrib", name := "ofPaper", desc := "(II)I" } : Jvm.MethodName) ({ cls := "ToolCrib", name := "ofPaper", desc := "(II)I" } : Jvm.MethodName)) ∈ TB := tb_5 7 rfl rfl
theorem tw_5_8 : (Jvm.Cond.code ({ cls := "ToolCrib", name := "ofPaper", desc := "(II)I" } : Jvm.MethodName) prog_1_method_27_code (4 : Nat) (Option.some Jvm.ClassFile.FieldType.int)) ∈ TB := tb_5 8 rfl rfl
theorem tw_5_9 : (Jvm.Cond.sameMethod "java/lang/Throwable" "java/lang/Throwable" "fillInStackTrace" "(I)Ljava/lang/Throwable;") ∈ TB := tb_5 9 rfl rfl
theorem tw_5_25 : (Jvm.Cond.sameMethod "[Ljava/lang/Object;" "java/lang/Object" "getClass" "()Ljava/lang/Class;") ∈ TB := tb_5 25 rfl rfl
theorem tw_5_26 : (Jvm.Cond.selects "[Ljava/lang/Object;" ({ cls := "java/lang/Object", name := "getClass", desc := "()Ljava/lang/Class;" } : Jvm.MethodName) ({ cls := "java/lang/Object", name := "getClass", desc := "()Ljava/lang/Class;" } : Jvm.MethodName)) ∈ TB := tb_5 26 rfl rfl
theorem ts_0 : (Jvm.Cond.selects "java/util/ArrayList" ({ cls := "java/util/ArrayList", name := "add", desc := "(Ljava/lang/Object;[Ljava/lang/Object;I)V" } : Jvm.MethodName) ({ cls := "java/util/ArrayList", name := "add", desc := "(Ljava/lang/Object;[Ljava/lang/Object;I)V" } : Jvm.MethodName)) ∈ TB := tb_s 0 rfl rfl
theorem ts_1 : (Jvm.Cond.selects "java/util/ArrayList" ({ cls := "java/util/ArrayList", name := "grow", desc := "()[Ljava/lang/Object;" } : Jvm.MethodName) ({ cls := "java/util/ArrayList", name := "grow", desc := "()[Ljava/lang/Object;" } : Jvm.MethodName)) ∈ TB := tb_s 1 rfl rfl
theorem ts_2 : (Jvm.Cond.selects "java/util/ArrayList" ({ cls := "java/util/ArrayList", name := "grow", desc := "(I)[Ljava/lang/Object;" } : Jvm.MethodName) ({ cls := "java/util/ArrayList", name := "grow", desc := "(I)[Ljava/lang/Object;" } : Jvm.MethodName)) ∈ TB := tb_s 2 rfl rfl
theorem ts_3 : (Jvm.Cond.selects "java/lang/Throwable" ({ cls := "java/lang/Throwable", name := "fillInStackTrace", desc := "(I)Ljava/lang/Throwable;" } : Jvm.MethodName) ({ cls := "java/lang/Throwable", name := "fillInStackTrace", desc := "(I)Ljava/lang/Throwable;" } : Jvm.MethodName)) ∈ TB := tb_s 3 rfl rfl
theorem ts_4 : (Jvm.Cond.selects "ToolCrib" ({ cls := "ToolCrib", name := "drawingAt", desc := "(I)LToolCrib$Drawing;" } : Jvm.MethodName) ({ cls := "ToolCrib", name := "drawingAt", desc := "(I)LToolCrib$Drawing;" } : Jvm.MethodName)) ∈ TB := tb_s 4 rfl rfl
theorem ts_5 : (Jvm.Cond.selects "ToolCrib" ({ cls := "ToolCrib", name := "cellAt", desc := "(II)I" } : Jvm.MethodName) ({ cls := "ToolCrib", name := "cellAt", desc := "(II)I" } : Jvm.MethodName)) ∈ TB := tb_s 5 rfl rfl
theorem ts_6 : (Jvm.Cond.selects "ToolCrib" ({ cls := "ToolCrib", name := "toolAt", desc := "(I)LToolCrib$Tool;" } : Jvm.MethodName) ({ cls := "ToolCrib", name := "toolAt", desc := "(I)LToolCrib$Tool;" } : Jvm.MethodName)) ∈ TB := tb_s 6 rfl rfl
theorem ts_7 : (Jvm.Cond.selects "ToolCrib" ({ cls := "ToolCrib", name := "countLoaded", desc := "()I" } : Jvm.MethodName) ({ cls := "ToolCrib", name := "countLoaded", desc := "()I" } : Jvm.MethodName)) ∈ TB := tb_s 7 rfl rfl
theorem ts_8 : (Jvm.Cond.selects "ToolCrib" ({ cls := "ToolCrib", name := "programAt", desc := "(I)LToolCrib$Program;" } : Jvm.MethodName) ({ cls := "ToolCrib", name := "programAt", desc := "(I)LToolCrib$Program;" } : Jvm.MethodName)) ∈ TB := tb_s 8 rfl rfl
theorem ts_9 : (Jvm.Cond.selects "ToolCrib" ({ cls := "ToolCrib", name := "palletAt", desc := "(I)LToolCrib$Pallet;" } : Jvm.MethodName) ({ cls := "ToolCrib", name := "palletAt", desc := "(I)LToolCrib$Pallet;" } : Jvm.MethodName)) ∈ TB := tb_s 9 rfl rfl
theorem ts_10 : (Jvm.Cond.selects "ToolCrib" ({ cls := "ToolCrib", name := "tryWhole", desc := "(II)V" } : Jvm.MethodName) ({ cls := "ToolCrib", name := "tryWhole", desc := "(II)V" } : Jvm.MethodName)) ∈ TB := tb_s 10 rfl rfl
theorem ts_11 : (Jvm.Cond.selects "ToolCrib$Walk" ({ cls := "ToolCrib$Walk", name := "enter", desc := "(I)V" } : Jvm.MethodName) ({ cls := "ToolCrib$Walk", name := "enter", desc := "(I)V" } : Jvm.MethodName)) ∈ TB := tb_s 11 rfl rfl
theorem ts_12 : (Jvm.Cond.selects "ToolCrib$Walk" ({ cls := "ToolCrib$Walk", name := "leaveEnded", desc := "()V" } : Jvm.MethodName) ({ cls := "ToolCrib$Walk", name := "leaveEnded", desc := "()V" } : Jvm.MethodName)) ∈ TB := tb_s 12 rfl rfl
theorem ts_13 : (Jvm.Cond.selects "java/util/ArrayList" ({ cls := "java/util/ArrayList", name := "fastRemove", desc := "([Ljava/lang/Object;I)V" } : Jvm.MethodName) ({ cls := "java/util/ArrayList", name := "fastRemove", desc := "([Ljava/lang/Object;I)V" } : Jvm.MethodName)) ∈ TB := tb_s 13 rfl rfl
theorem ts_14 : (Jvm.Cond.selects "ToolCrib$Walk" ({ cls := "ToolCrib$Walk", name := "obeyNext", desc := "(I)V" } : Jvm.MethodName) ({ cls := "ToolCrib$Walk", name := "obeyNext", desc := "(I)V" } : Jvm.MethodName)) ∈ TB := tb_s 14 rfl rfl
theorem ts_15 : (Jvm.Cond.selects "ToolCrib$Walk" ({ cls := "ToolCrib$Walk", name := "aim", desc := "(III)V" } : Jvm.MethodName) ({ cls := "ToolCrib$Walk", name := "aim", desc := "(III)V" } : Jvm.MethodName)) ∈ TB := tb_s 15 rfl rfl
theorem ts_16 : (Jvm.Cond.selects "ToolCrib$Walk" ({ cls := "ToolCrib$Walk", name := "changeTool", desc := "(I)V" } : Jvm.MethodName) ({ cls := "ToolCrib$Walk", name := "changeTool", desc := "(I)V" } : Jvm.MethodName)) ∈ TB := tb_s 16 rfl rfl
theorem ts_17 : (Jvm.Cond.selects "ToolCrib" ({ cls := "ToolCrib", name := "isCutToEnd", desc := "(LToolCrib$Pallet;)Z" } : Jvm.MethodName) ({ cls := "ToolCrib", name := "isCutToEnd", desc := "(LToolCrib$Pallet;)Z" } : Jvm.MethodName)) ∈ TB := tb_s 17 rfl rfl
theorem ts_18 : (Jvm.Cond.selects "ToolCrib" ({ cls := "ToolCrib", name := "lowestToolFor", desc := "(I)LToolCrib$Tool;" } : Jvm.MethodName) ({ cls := "ToolCrib", name := "lowestToolFor", desc := "(I)LToolCrib$Tool;" } : Jvm.MethodName)) ∈ TB := tb_s 18 rfl rfl
theorem ts_19 : (Jvm.Cond.selects "ToolCrib" ({ cls := "ToolCrib", name := "cutBy", desc := "(LToolCrib$Tool;LToolCrib$Pallet;)V" } : Jvm.MethodName) ({ cls := "ToolCrib", name := "cutBy", desc := "(LToolCrib$Tool;LToolCrib$Pallet;)V" } : Jvm.MethodName)) ∈ TB := tb_s 19 rfl rfl
theorem ts_20 : (Jvm.Cond.selects "ToolCrib" ({ cls := "ToolCrib", name := "greatestPart", desc := "()I" } : Jvm.MethodName) ({ cls := "ToolCrib", name := "greatestPart", desc := "()I" } : Jvm.MethodName)) ∈ TB := tb_s 20 rfl rfl
theorem ts_21 : (Jvm.Cond.selects "ToolCrib" ({ cls := "ToolCrib", name := "gaugeAt", desc := "(I)LToolCrib$Gauge;" } : Jvm.MethodName) ({ cls := "ToolCrib", name := "gaugeAt", desc := "(I)LToolCrib$Gauge;" } : Jvm.MethodName)) ∈ TB := tb_s 21 rfl rfl
theorem ts_22 : (Jvm.Cond.selects "ToolCrib" ({ cls := "ToolCrib", name := "tell", desc := "(II)V" } : Jvm.MethodName) ({ cls := "ToolCrib", name := "tell", desc := "(II)V" } : Jvm.MethodName)) ∈ TB := tb_s 22 rfl rfl
theorem ts_23 : (Jvm.Cond.selects "ToolCrib" ({ cls := "ToolCrib", name := "paperAt", desc := "(I)LToolCrib$Paper;" } : Jvm.MethodName) ({ cls := "ToolCrib", name := "paperAt", desc := "(I)LToolCrib$Paper;" } : Jvm.MethodName)) ∈ TB := tb_s 23 rfl rfl
theorem ts_24 : (Jvm.Cond.selects "ToolCrib$Tool" ({ cls := "ToolCrib$Tool", name := "isOneWay", desc := "()Z" } : Jvm.MethodName) ({ cls := "ToolCrib$Tool", name := "isOneWay", desc := "()Z" } : Jvm.MethodName)) ∈ TB := tb_s 24 rfl rfl
theorem ts_25 : (Jvm.Cond.selects "ToolCrib" ({ cls := "ToolCrib", name := "placeInQueue", desc := "(LToolCrib$Pallet;)I" } : Jvm.MethodName) ({ cls := "ToolCrib", name := "placeInQueue", desc := "(LToolCrib$Pallet;)I" } : Jvm.MethodName)) ∈ TB := tb_s 25 rfl rfl
theorem ts_26 : (Jvm.Cond.selects "ToolCrib" ({ cls := "ToolCrib", name := "countLeft", desc := "(I)I" } : Jvm.MethodName) ({ cls := "ToolCrib", name := "countLeft", desc := "(I)I" } : Jvm.MethodName)) ∈ TB := tb_s 26 rfl rfl
theorem ts_27 : (Jvm.Cond.selects "ToolCrib" ({ cls := "ToolCrib", name := "isEnoughFor", desc := "(LToolCrib$Pallet;)Z" } : Jvm.MethodName) ({ cls := "ToolCrib", name := "isEnoughFor", desc := "(LToolCrib$Pallet;)Z" } : Jvm.MethodName)) ∈ TB := tb_s 27 rfl rfl
/-- a method's words: its code, and the tables' -/
def wM (y : MethodName) (b : ByteArray) (n : Nat) (ret : Option FieldType) : List Cond := .code y b n ret :: TB
theorem wm_in {y : MethodName} {b : ByteArray} {n : Nat} {ret : Option FieldType} (h : Cond.code y b n ret ∈ TB) : GoodIn TB (wM y b n ret) := fun w hw => (List.mem_cons.mp hw).elim (fun e => by rw [e]; exact ⟨h, good_of_word (tb_all _ h)⟩) (fun e => ⟨e, good_of_word (tb_all _ e)⟩)
theorem wm_hts {y : MethodName} {b : ByteArray} {n : Nat} {ret : Option FieldType} {args : Array Value} {s : State} (h : ∀ w ∈ wM y b n ret, w.before args s = true) : ∀ w ∈ TB, w.before args s = true := fun w hw => h w (List.mem_cons_of_mem _ hw)

