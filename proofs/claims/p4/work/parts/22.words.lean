/-! words of the tables, by their places; classes; what the entries of each class' pool are -/
theorem inC_1 {w : Cond} (i : Nat) (h : tables_1_1[i]? = some w) (hg : goodWord w = true) : w ∈ p_G := List.mem_filter.mpr ⟨List.mem_cons_of_mem _ (List.mem_append_right _ (have h := List.mem_of_getElem? h; List.mem_append_left _ h)), hg⟩
theorem inC_2 {w : Cond} (i : Nat) (h : tables_1_2[i]? = some w) (hg : goodWord w = true) : w ∈ p_G := List.mem_filter.mpr ⟨List.mem_cons_of_mem _ (List.mem_append_right _ (have h := List.mem_of_getElem? h; List.mem_append_right _ (List.mem_append_left _ h))), hg⟩
theorem inC_3 {w : Cond} (i : Nat) (h : tables_1_3[i]? = some w) (hg : goodWord w = true) : w ∈ p_G := List.mem_filter.mpr ⟨List.mem_cons_of_mem _ (List.mem_append_right _ (have h := List.mem_of_getElem? h; List.mem_append_right _ (List.mem_append_right _ (List.mem_append_left _ h)))), hg⟩
theorem inC_4 {w : Cond} (i : Nat) (h : tables_1_4[i]? = some w) (hg : goodWord w = true) : w ∈ p_G := List.mem_filter.mpr ⟨List.mem_cons_of_mem _ (List.mem_append_right _ (have h := List.mem_of_getElem? h; List.mem_append_right _ (List.mem_append_right _ (List.mem_append_right _ (List.mem_append_left _ h))))), hg⟩
theorem inC_5 {w : Cond} (i : Nat) (h : tables_1_5[i]? = some w) (hg : goodWord w = true) : w ∈ p_G := List.mem_filter.mpr ⟨List.mem_cons_of_mem _ (List.mem_append_right _ (have h := List.mem_of_getElem? h; List.mem_append_right _ (List.mem_append_right _ (List.mem_append_right _ (List.mem_append_right _ (List.mem_append_left _ h)))))), hg⟩
theorem inC_6 {w : Cond} (i : Nat) (h : tables_1_6[i]? = some w) (hg : goodWord w = true) : w ∈ p_G := List.mem_filter.mpr ⟨List.mem_cons_of_mem _ (List.mem_append_right _ (have h := List.mem_of_getElem? h; List.mem_append_right _ (List.mem_append_right _ (List.mem_append_right _ (List.mem_append_right _ (List.mem_append_right _ (List.mem_append_left _ h))))))), hg⟩
theorem inC_7 {w : Cond} (i : Nat) (h : tables_1_7[i]? = some w) (hg : goodWord w = true) : w ∈ p_G := List.mem_filter.mpr ⟨List.mem_cons_of_mem _ (List.mem_append_right _ (have h := List.mem_of_getElem? h; List.mem_append_right _ (List.mem_append_right _ (List.mem_append_right _ (List.mem_append_right _ (List.mem_append_right _ (List.mem_append_right _ (List.mem_append_left _ h)))))))), hg⟩
theorem inC_8 {w : Cond} (i : Nat) (h : tables_1_8[i]? = some w) (hg : goodWord w = true) : w ∈ p_G := List.mem_filter.mpr ⟨List.mem_cons_of_mem _ (List.mem_append_right _ (have h := List.mem_of_getElem? h; List.mem_append_right _ (List.mem_append_right _ (List.mem_append_right _ (List.mem_append_right _ (List.mem_append_right _ (List.mem_append_right _ (List.mem_append_right _ (List.mem_append_left _ h))))))))), hg⟩
theorem inC_9 {w : Cond} (i : Nat) (h : tables_1_9[i]? = some w) (hg : goodWord w = true) : w ∈ p_G := List.mem_filter.mpr ⟨List.mem_cons_of_mem _ (List.mem_append_right _ (have h := List.mem_of_getElem? h; List.mem_append_right _ (List.mem_append_right _ (List.mem_append_right _ (List.mem_append_right _ (List.mem_append_right _ (List.mem_append_right _ (List.mem_append_right _ (List.mem_append_right _ (h)))))))))), hg⟩
theorem w_0 : (Jvm.Cond.initialized "DriverHostLaw") ∈ p_G := inC_1 0 rfl rfl
theorem w_1 : (Jvm.Cond.initialized "DriverHost") ∈ p_G := inC_1 1 rfl rfl
theorem w_2 : (Jvm.Cond.initialized "DriverHost$World") ∈ p_G := inC_1 2 rfl rfl
theorem w_3 : (Jvm.Cond.initialized "DriverHost$Program") ∈ p_G := inC_1 3 rfl rfl
theorem w_4 : (Jvm.Cond.initialized "DriverHost$Code") ∈ p_G := inC_1 4 rfl rfl
theorem w_5 : (Jvm.Cond.initialized "java/lang/Math") ∈ p_G := inC_1 5 rfl rfl
theorem w_6 : (Jvm.Cond.initialized "DriverHost$Journal") ∈ p_G := inC_1 6 rfl rfl
theorem w_7 : (Jvm.Cond.initialized "DriverHost$Driver") ∈ p_G := inC_1 7 rfl rfl
theorem w_8 : (Jvm.Cond.initialized "DriverHost$Request") ∈ p_G := inC_1 8 rfl rfl
theorem w_9 : (Jvm.Cond.initialized "DriverHost$History") ∈ p_G := inC_1 9 rfl rfl
theorem w_10 : (Jvm.Cond.initialized "DriverHostModel") ∈ p_G := inC_1 10 rfl rfl
theorem w_14 : (Jvm.Cond.initialized "java/lang/IllegalArgumentException") ∈ p_G := inC_1 14 rfl rfl
theorem w_15 : (Jvm.Cond.initialized "DriverHost$Reader") ∈ p_G := inC_1 15 rfl rfl
theorem w_16 : (Jvm.Cond.initialized "DriverHost$Tokens") ∈ p_G := inC_1 16 rfl rfl
theorem w_23 : (Jvm.Cond.initialized "DriverHost$Command") ∈ p_G := inC_1 23 rfl rfl
theorem w_24 : (Jvm.Cond.initialized "java/util/NoSuchElementException") ∈ p_G := inC_1 24 rfl rfl
theorem w_25 : (Jvm.Cond.initialized "java/lang/System") ∈ p_G := inC_1 25 rfl rfl
theorem w_26 : (Jvm.Cond.classLink "DriverHostLaw" (8 : Nat) "DriverHost") ∈ p_G := inC_1 26 rfl rfl
theorem w_27 : (Jvm.Cond.instantiable "DriverHost" (8 : Nat)) ∈ p_G := inC_1 27 rfl rfl
theorem w_28 : (Jvm.Cond.methodLink "DriverHostLaw" (109 : Nat) ({ cls := "DriverHost", name := "<init>", desc := "()V" } : Jvm.MethodName)) ∈ p_G := inC_1 28 rfl rfl
theorem w_29 : (Jvm.Cond.instanceMethod ({ cls := "DriverHost", name := "<init>", desc := "()V" } : Jvm.MethodName)) ∈ p_G := inC_1 29 rfl rfl
theorem w_30 : (Jvm.Cond.code ({ cls := "DriverHost", name := "<init>", desc := "()V" } : Jvm.MethodName) prog_1_method_1_code (1 : Nat) (Option.none : Option Jvm.ClassFile.FieldType)) ∈ p_G := inC_1 30 rfl rfl
theorem w_31 : (Jvm.Cond.methodLink "DriverHost" (3 : Nat) ({ cls := "java/lang/Object", name := "<init>", desc := "()V" } : Jvm.MethodName)) ∈ p_G := inC_1 31 rfl rfl
theorem w_32 : (Jvm.Cond.instanceMethod ({ cls := "java/lang/Object", name := "<init>", desc := "()V" } : Jvm.MethodName)) ∈ p_G := inC_1 32 rfl rfl
theorem w_33 : (Jvm.Cond.code ({ cls := "java/lang/Object", name := "<init>", desc := "()V" } : Jvm.MethodName) object_method_1_code (1 : Nat) (Option.none : Option Jvm.ClassFile.FieldType)) ∈ p_G := inC_1 33 rfl rfl
theorem w_34 : (Jvm.Cond.classLink "DriverHost" (20 : Nat) "DriverHost$World") ∈ p_G := inC_1 34 rfl rfl
theorem w_35 : (Jvm.Cond.instantiable "DriverHost$World" (7 : Nat)) ∈ p_G := inC_1 35 rfl rfl
theorem w_36 : (Jvm.Cond.classLink "DriverHost" (22 : Nat) "DriverHost$Program") ∈ p_G := inC_1 36 rfl rfl
theorem w_37 : (Jvm.Cond.instantiable "DriverHost$Program" (11 : Nat)) ∈ p_G := inC_1 37 rfl rfl
theorem w_38 : (Jvm.Cond.methodLink "DriverHost" (24 : Nat) ({ cls := "DriverHost$Program", name := "<init>", desc := "(I)V" } : Jvm.MethodName)) ∈ p_G := inC_1 38 rfl rfl
theorem w_39 : (Jvm.Cond.instanceMethod ({ cls := "DriverHost$Program", name := "<init>", desc := "(I)V" } : Jvm.MethodName)) ∈ p_G := inC_1 39 rfl rfl
theorem w_40 : (Jvm.Cond.code ({ cls := "DriverHost$Program", name := "<init>", desc := "(I)V" } : Jvm.MethodName) prog_7_method_1_code (2 : Nat) (Option.none : Option Jvm.ClassFile.FieldType)) ∈ p_G := inC_1 40 rfl rfl
theorem w_41 : (Jvm.Cond.methodLink "DriverHost$Program" (3 : Nat) ({ cls := "java/lang/Object", name := "<init>", desc := "()V" } : Jvm.MethodName)) ∈ p_G := inC_1 41 rfl rfl
theorem w_42 : (Jvm.Cond.classLink "DriverHost$Program" (18 : Nat) "DriverHost$Command") ∈ p_G := inC_1 42 rfl rfl
theorem w_44 : (Jvm.Cond.classLink "DriverHost$Program" (45 : Nat) "DriverHost$Code") ∈ p_G := inC_1 44 rfl rfl
theorem w_45 : (Jvm.Cond.instantiable "DriverHost$Code" (4 : Nat)) ∈ p_G := inC_1 45 rfl rfl
theorem w_46 : (Jvm.Cond.methodLink "DriverHost$Program" (47 : Nat) ({ cls := "DriverHost$Code", name := "<init>", desc := "(I)V" } : Jvm.MethodName)) ∈ p_G := inC_1 46 rfl rfl
theorem w_47 : (Jvm.Cond.instanceMethod ({ cls := "DriverHost$Code", name := "<init>", desc := "(I)V" } : Jvm.MethodName)) ∈ p_G := inC_1 47 rfl rfl
theorem w_48 : (Jvm.Cond.code ({ cls := "DriverHost$Code", name := "<init>", desc := "(I)V" } : Jvm.MethodName) prog_2_method_1_code (2 : Nat) (Option.none : Option Jvm.ClassFile.FieldType)) ∈ p_G := inC_1 48 rfl rfl
theorem w_49 : (Jvm.Cond.methodLink "DriverHost$Code" (3 : Nat) ({ cls := "java/lang/Object", name := "<init>", desc := "()V" } : Jvm.MethodName)) ∈ p_G := inC_1 49 rfl rfl
theorem w_50 : (Jvm.Cond.methodLink "DriverHost$Code" (19 : Nat) ({ cls := "java/lang/Math", name := "max", desc := "(II)I" } : Jvm.MethodName)) ∈ p_G := inC_1 50 rfl rfl
theorem w_51 : (Jvm.Cond.static ({ cls := "java/lang/Math", name := "max", desc := "(II)I" } : Jvm.MethodName)) ∈ p_G := inC_1 51 rfl rfl
theorem w_52 : (Jvm.Cond.code ({ cls := "java/lang/Math", name := "max", desc := "(II)I" } : Jvm.MethodName) prog_21_method_65_code (2 : Nat) (Option.some Jvm.ClassFile.FieldType.int)) ∈ p_G := inC_1 52 rfl rfl
theorem w_53 : (Jvm.Cond.fieldLink "DriverHost$Code" (25 : Nat) "DriverHost$Code" "ops" "[I") ∈ p_G := inC_1 53 rfl rfl
theorem w_54 : (Jvm.Cond.fieldLink "DriverHost$Code" (28 : Nat) "DriverHost$Code" "operands" "[I") ∈ p_G := inC_1 54 rfl rfl
theorem w_55 : (Jvm.Cond.fieldLink "DriverHost$Code" (9 : Nat) "DriverHost$Code" "size" "I") ∈ p_G := inC_1 55 rfl rfl
theorem w_56 : (Jvm.Cond.fieldLink "DriverHost$Reader" (171 : Nat) "DriverHost$Code" "size" "I") ∈ p_G := inC_1 56 rfl rfl
theorem w_57 : (Jvm.Cond.fieldLink "DriverHost$World" (329 : Nat) "DriverHost$Code" "size" "I") ∈ p_G := inC_1 57 rfl rfl
theorem w_58 : (Jvm.Cond.fieldLink "DriverHost$Code" (15 : Nat) "DriverHost$Code" "stack" "[I") ∈ p_G := inC_1 58 rfl rfl
theorem w_68 : (Jvm.Cond.arrayClass Jvm.ClassFile.FieldType.byte) ∈ p_G := inC_1 68 rfl rfl
theorem w_69 : (Jvm.Cond.arrayClass Jvm.ClassFile.FieldType.int) ∈ p_G := inC_1 69 rfl rfl
theorem w_70 : (Jvm.Cond.fieldLink "DriverHost$Program" (9 : Nat) "DriverHost$Program" "driverCount" "I") ∈ p_G := inC_1 70 rfl rfl
theorem w_71 : (Jvm.Cond.fieldLink "DriverHost$Reader" (65 : Nat) "DriverHost$Program" "driverCount" "I") ∈ p_G := inC_1 71 rfl rfl
theorem w_72 : (Jvm.Cond.fieldLink "DriverHost$World" (61 : Nat) "DriverHost$Program" "driverCount" "I") ∈ p_G := inC_1 72 rfl rfl
theorem w_73 : (Jvm.Cond.fieldLink "DriverHost" (90 : Nat) "DriverHost$Program" "driverCount" "I") ∈ p_G := inC_1 73 rfl rfl
theorem w_74 : (Jvm.Cond.fieldLink "DriverHost$Program" (15 : Nat) "DriverHost$Program" "commandCount" "I") ∈ p_G := inC_1 74 rfl rfl
theorem w_75 : (Jvm.Cond.fieldLink "DriverHost" (86 : Nat) "DriverHost$Program" "commandCount" "I") ∈ p_G := inC_1 75 rfl rfl
theorem w_76 : (Jvm.Cond.fieldLink "DriverHost$Reader" (158 : Nat) "DriverHost$Program" "commandCount" "I") ∈ p_G := inC_1 76 rfl rfl
theorem w_77 : (Jvm.Cond.fieldLink "DriverHost$Program" (20 : Nat) "DriverHost$Program" "commands" "[LDriverHost$Command;") ∈ p_G := inC_1 77 rfl rfl
theorem w_78 : (Jvm.Cond.fieldLink "DriverHost$Program" (24 : Nat) "DriverHost$Program" "firstDelay" "I") ∈ p_G := inC_1 78 rfl rfl
theorem w_79 : (Jvm.Cond.fieldLink "DriverHost$World" (41 : Nat) "DriverHost$Program" "firstDelay" "I") ∈ p_G := inC_1 79 rfl rfl
theorem w_80 : (Jvm.Cond.fieldLink "DriverHost$Reader" (125 : Nat) "DriverHost$Program" "firstDelay" "I") ∈ p_G := inC_1 80 rfl rfl
theorem w_81 : (Jvm.Cond.fieldLink "DriverHost$Program" (27 : Nat) "DriverHost$Program" "greatestDelay" "I") ∈ p_G := inC_1 81 rfl rfl
theorem w_82 : (Jvm.Cond.fieldLink "DriverHost$Reader" (128 : Nat) "DriverHost$Program" "greatestDelay" "I") ∈ p_G := inC_1 82 rfl rfl
theorem w_83 : (Jvm.Cond.fieldLink "DriverHost$World" (320 : Nat) "DriverHost$Program" "greatestDelay" "I") ∈ p_G := inC_1 83 rfl rfl
theorem w_84 : (Jvm.Cond.fieldLink "DriverHost" (273 : Nat) "DriverHost$Program" "greatestDelay" "I") ∈ p_G := inC_1 84 rfl rfl
theorem w_85 : (Jvm.Cond.fieldLink "DriverHost$Program" (30 : Nat) "DriverHost$Program" "calm" "I") ∈ p_G := inC_1 85 rfl rfl
theorem w_86 : (Jvm.Cond.fieldLink "DriverHost$Reader" (134 : Nat) "DriverHost$Program" "calm" "I") ∈ p_G := inC_1 86 rfl rfl
theorem w_87 : (Jvm.Cond.fieldLink "DriverHost$World" (119 : Nat) "DriverHost$Program" "calm" "I") ∈ p_G := inC_1 87 rfl rfl
theorem w_88 : (Jvm.Cond.fieldLink "DriverHost$Program" (33 : Nat) "DriverHost$Program" "streakLimit" "I") ∈ p_G := inC_1 88 rfl rfl
theorem w_89 : (Jvm.Cond.fieldLink "DriverHost$Reader" (140 : Nat) "DriverHost$Program" "streakLimit" "I") ∈ p_G := inC_1 89 rfl rfl
theorem w_90 : (Jvm.Cond.fieldLink "DriverHost$World" (295 : Nat) "DriverHost$Program" "streakLimit" "I") ∈ p_G := inC_1 90 rfl rfl
theorem w_91 : (Jvm.Cond.fieldLink "DriverHost$Program" (36 : Nat) "DriverHost$Program" "poison" "I") ∈ p_G := inC_1 91 rfl rfl
theorem w_92 : (Jvm.Cond.fieldLink "DriverHost$Reader" (146 : Nat) "DriverHost$Program" "poison" "I") ∈ p_G := inC_1 92 rfl rfl
theorem w_93 : (Jvm.Cond.fieldLink "DriverHost$World" (310 : Nat) "DriverHost$Program" "poison" "I") ∈ p_G := inC_1 93 rfl rfl
theorem w_94 : (Jvm.Cond.fieldLink "DriverHost$Program" (39 : Nat) "DriverHost$Program" "interval" "I") ∈ p_G := inC_1 94 rfl rfl
theorem w_95 : (Jvm.Cond.fieldLink "DriverHost$Reader" (152 : Nat) "DriverHost$Program" "interval" "I") ∈ p_G := inC_1 95 rfl rfl
theorem w_96 : (Jvm.Cond.fieldLink "DriverHost$World" (283 : Nat) "DriverHost$Program" "interval" "I") ∈ p_G := inC_1 96 rfl rfl
theorem w_97 : (Jvm.Cond.fieldLink "DriverHost$Program" (42 : Nat) "DriverHost$Program" "handover" "I") ∈ p_G := inC_1 97 rfl rfl
theorem w_98 : (Jvm.Cond.fieldLink "DriverHost$Reader" (155 : Nat) "DriverHost$Program" "handover" "I") ∈ p_G := inC_1 98 rfl rfl
theorem w_99 : (Jvm.Cond.fieldLink "DriverHost" (184 : Nat) "DriverHost$Program" "handover" "I") ∈ p_G := inC_1 99 rfl rfl
theorem w_100 : (Jvm.Cond.fieldLink "DriverHost$Reader" (43 : Nat) "DriverHost$Program" "code" "LDriverHost$Code;") ∈ p_G := inC_1 100 rfl rfl
theorem w_101 : (Jvm.Cond.fieldLink "DriverHost$Program" (50 : Nat) "DriverHost$Program" "code" "LDriverHost$Code;") ∈ p_G := inC_1 101 rfl rfl
theorem w_102 : (Jvm.Cond.fieldLink "DriverHost$World" (193 : Nat) "DriverHost$Program" "code" "LDriverHost$Code;") ∈ p_G := inC_1 102 rfl rfl
theorem w_126 : (Jvm.Cond.methodLink "DriverHost" (27 : Nat) ({ cls := "DriverHost$World", name := "<init>", desc := "(LDriverHost$Program;)V" } : Jvm.MethodName)) ∈ p_G := inC_1 126 rfl rfl
theorem w_127 : (Jvm.Cond.instanceMethod ({ cls := "DriverHost$World", name := "<init>", desc := "(LDriverHost$Program;)V" } : Jvm.MethodName)) ∈ p_G := inC_1 127 rfl rfl
theorem w_128 : (Jvm.Cond.code ({ cls := "DriverHost$World", name := "<init>", desc := "(LDriverHost$Program;)V" } : Jvm.MethodName) prog_12_method_1_code (3 : Nat) (Option.none : Option Jvm.ClassFile.FieldType)) ∈ p_G := inC_1 128 rfl rfl
theorem w_129 : (Jvm.Cond.methodLink "DriverHost$World" (3 : Nat) ({ cls := "java/lang/Object", name := "<init>", desc := "()V" } : Jvm.MethodName)) ∈ p_G := inC_1 129 rfl rfl
theorem w_130 : (Jvm.Cond.classLink "DriverHost$World" (18 : Nat) "DriverHost$Driver") ∈ p_G := inC_1 130 rfl rfl
theorem w_132 : (Jvm.Cond.classLink "DriverHost$World" (24 : Nat) "DriverHost$Request") ∈ p_G := inC_1 132 rfl rfl
theorem w_134 : (Jvm.Cond.classLink "DriverHost$World" (30 : Nat) "DriverHost$Journal") ∈ p_G := inC_1 134 rfl rfl
theorem w_135 : (Jvm.Cond.instantiable "DriverHost$Journal" (7 : Nat)) ∈ p_G := inC_1 135 rfl rfl
theorem w_137 : (Jvm.Cond.instanceMethod ({ cls := "DriverHost$Journal", name := "<init>", desc := "()V" } : Jvm.MethodName)) ∈ p_G := inC_1 137 rfl rfl
theorem w_138 : (Jvm.Cond.code ({ cls := "DriverHost$Journal", name := "<init>", desc := "()V" } : Jvm.MethodName) prog_6_method_1_code (1 : Nat) (Option.none : Option Jvm.ClassFile.FieldType)) ∈ p_G := inC_1 138 rfl rfl
theorem w_139 : (Jvm.Cond.methodLink "DriverHost$Journal" (3 : Nat) ({ cls := "java/lang/Object", name := "<init>", desc := "()V" } : Jvm.MethodName)) ∈ p_G := inC_1 139 rfl rfl
theorem w_140 : (Jvm.Cond.fieldLink "DriverHost$Journal" (9 : Nat) "DriverHost$Journal" "clocks" "[I") ∈ p_G := inC_1 140 rfl rfl
theorem w_141 : (Jvm.Cond.fieldLink "DriverHost$Journal" (15 : Nat) "DriverHost$Journal" "events" "[I") ∈ p_G := inC_1 141 rfl rfl
theorem w_142 : (Jvm.Cond.fieldLink "DriverHost$Journal" (18 : Nat) "DriverHost$Journal" "drivers" "[I") ∈ p_G := inC_1 142 rfl rfl
theorem w_143 : (Jvm.Cond.fieldLink "DriverHost$Journal" (21 : Nat) "DriverHost$Journal" "requests" "[I") ∈ p_G := inC_1 143 rfl rfl
theorem w_144 : (Jvm.Cond.fieldLink "DriverHost$Journal" (24 : Nat) "DriverHost$Journal" "totals" "[I") ∈ p_G := inC_1 144 rfl rfl
theorem w_145 : (Jvm.Cond.fieldLink "DriverHost$Journal" (27 : Nat) "DriverHost$Journal" "oldest" "I") ∈ p_G := inC_1 145 rfl rfl
theorem w_146 : (Jvm.Cond.fieldLink "DriverHost$Journal" (31 : Nat) "DriverHost$Journal" "size" "I") ∈ p_G := inC_1 146 rfl rfl
theorem w_147 : (Jvm.Cond.fieldLink "DriverHost" (248 : Nat) "DriverHost$Journal" "size" "I") ∈ p_G := inC_1 147 rfl rfl
theorem w_163 : (Jvm.Cond.instantiable "DriverHost$Driver" (16 : Nat)) ∈ p_G := inC_1 163 rfl rfl
theorem w_164 : (Jvm.Cond.methodLink "DriverHost$World" (47 : Nat) ({ cls := "DriverHost$Driver", name := "<init>", desc := "(I)V" } : Jvm.MethodName)) ∈ p_G := inC_1 164 rfl rfl
theorem w_165 : (Jvm.Cond.instanceMethod ({ cls := "DriverHost$Driver", name := "<init>", desc := "(I)V" } : Jvm.MethodName)) ∈ p_G := inC_1 165 rfl rfl
theorem w_166 : (Jvm.Cond.code ({ cls := "DriverHost$Driver", name := "<init>", desc := "(I)V" } : Jvm.MethodName) prog_4_method_1_code (2 : Nat) (Option.none : Option Jvm.ClassFile.FieldType)) ∈ p_G := inC_1 166 rfl rfl
theorem w_167 : (Jvm.Cond.methodLink "DriverHost$Driver" (3 : Nat) ({ cls := "java/lang/Object", name := "<init>", desc := "()V" } : Jvm.MethodName)) ∈ p_G := inC_1 167 rfl rfl
theorem w_168 : (Jvm.Cond.constant "DriverHost$Driver" (46 : Nat) (2147483647 : Int32)) ∈ p_G := inC_1 168 rfl rfl
theorem w_169 : (Jvm.Cond.fieldLink "DriverHost$Driver" (59 : Nat) "DriverHost$Driver" "number" "I") ∈ p_G := inC_1 169 rfl rfl
theorem w_170 : (Jvm.Cond.fieldLink "DriverHost$World" (125 : Nat) "DriverHost$Driver" "number" "I") ∈ p_G := inC_1 170 rfl rfl
theorem w_171 : (Jvm.Cond.fieldLink "DriverHost$Driver" (9 : Nat) "DriverHost$Driver" "state" "I") ∈ p_G := inC_1 171 rfl rfl
theorem w_172 : (Jvm.Cond.fieldLink "DriverHost$World" (88 : Nat) "DriverHost$Driver" "state" "I") ∈ p_G := inC_1 172 rfl rfl
theorem w_173 : (Jvm.Cond.fieldLink "DriverHost" (122 : Nat) "DriverHost$Driver" "state" "I") ∈ p_G := inC_1 173 rfl rfl
theorem w_174 : (Jvm.Cond.fieldLink "DriverHost$Driver" (15 : Nat) "DriverHost$Driver" "downUntil" "I") ∈ p_G := inC_1 174 rfl rfl
theorem w_175 : (Jvm.Cond.fieldLink "DriverHost$World" (91 : Nat) "DriverHost$Driver" "downUntil" "I") ∈ p_G := inC_1 175 rfl rfl
theorem w_176 : (Jvm.Cond.fieldLink "DriverHost" (190 : Nat) "DriverHost$Driver" "downUntil" "I") ∈ p_G := inC_1 176 rfl rfl
theorem w_177 : (Jvm.Cond.fieldLink "DriverHost$Driver" (18 : Nat) "DriverHost$Driver" "started" "I") ∈ p_G := inC_1 177 rfl rfl
theorem w_178 : (Jvm.Cond.fieldLink "DriverHost$World" (116 : Nat) "DriverHost$Driver" "started" "I") ∈ p_G := inC_1 178 rfl rfl
theorem w_179 : (Jvm.Cond.fieldLink "DriverHost$Driver" (21 : Nat) "DriverHost$Driver" "streak" "I") ∈ p_G := inC_1 179 rfl rfl
theorem w_180 : (Jvm.Cond.fieldLink "DriverHost$World" (122 : Nat) "DriverHost$Driver" "streak" "I") ∈ p_G := inC_1 180 rfl rfl
theorem w_181 : (Jvm.Cond.fieldLink "DriverHost" (217 : Nat) "DriverHost$Driver" "streak" "I") ∈ p_G := inC_1 181 rfl rfl
theorem w_182 : (Jvm.Cond.fieldLink "DriverHost$Driver" (24 : Nat) "DriverHost$Driver" "cells" "[I") ∈ p_G := inC_1 182 rfl rfl
theorem w_183 : (Jvm.Cond.fieldLink "DriverHost$World" (203 : Nat) "DriverHost$Driver" "cells" "[I") ∈ p_G := inC_1 183 rfl rfl
theorem w_184 : (Jvm.Cond.fieldLink "DriverHost$Driver" (28 : Nat) "DriverHost$Driver" "snapshot" "[I") ∈ p_G := inC_1 184 rfl rfl
theorem w_185 : (Jvm.Cond.fieldLink "DriverHost$Driver" (31 : Nat) "DriverHost$Driver" "log" "[I") ∈ p_G := inC_1 185 rfl rfl
theorem w_186 : (Jvm.Cond.fieldLink "DriverHost$Driver" (34 : Nat) "DriverHost$Driver" "logSize" "I") ∈ p_G := inC_1 186 rfl rfl
theorem w_187 : (Jvm.Cond.fieldLink "DriverHost$World" (135 : Nat) "DriverHost$Driver" "logSize" "I") ∈ p_G := inC_1 187 rfl rfl
theorem w_188 : (Jvm.Cond.fieldLink "DriverHost" (193 : Nat) "DriverHost$Driver" "logSize" "I") ∈ p_G := inC_1 188 rfl rfl
theorem w_189 : (Jvm.Cond.fieldLink "DriverHost$Driver" (37 : Nat) "DriverHost$Driver" "inFlight" "I") ∈ p_G := inC_1 189 rfl rfl
theorem w_190 : (Jvm.Cond.fieldLink "DriverHost$World" (103 : Nat) "DriverHost$Driver" "inFlight" "I") ∈ p_G := inC_1 190 rfl rfl
theorem w_191 : (Jvm.Cond.fieldLink "DriverHost" (178 : Nat) "DriverHost$Driver" "inFlight" "I") ∈ p_G := inC_1 191 rfl rfl
theorem w_192 : (Jvm.Cond.fieldLink "DriverHost$Driver" (40 : Nat) "DriverHost$Driver" "returned" "I") ∈ p_G := inC_1 192 rfl rfl
theorem w_193 : (Jvm.Cond.fieldLink "DriverHost$World" (161 : Nat) "DriverHost$Driver" "returned" "I") ∈ p_G := inC_1 193 rfl rfl
theorem w_194 : (Jvm.Cond.fieldLink "DriverHost$Driver" (43 : Nat) "DriverHost$Driver" "queueSize" "I") ∈ p_G := inC_1 194 rfl rfl
theorem w_195 : (Jvm.Cond.fieldLink "DriverHost$World" (238 : Nat) "DriverHost$Driver" "queueSize" "I") ∈ p_G := inC_1 195 rfl rfl
theorem w_196 : (Jvm.Cond.fieldLink "DriverHost" (238 : Nat) "DriverHost$Driver" "queueSize" "I") ∈ p_G := inC_1 196 rfl rfl
theorem w_197 : (Jvm.Cond.fieldLink "DriverHost$Driver" (47 : Nat) "DriverHost$Driver" "firstDeadline" "I") ∈ p_G := inC_1 197 rfl rfl
theorem w_198 : (Jvm.Cond.fieldLink "DriverHost$World" (97 : Nat) "DriverHost$Driver" "firstDeadline" "I") ∈ p_G := inC_1 198 rfl rfl
theorem w_199 : (Jvm.Cond.fieldLink "DriverHost$Driver" (50 : Nat) "DriverHost$Driver" "ticksUp" "I") ∈ p_G := inC_1 199 rfl rfl
theorem w_200 : (Jvm.Cond.fieldLink "DriverHost$World" (113 : Nat) "DriverHost$Driver" "ticksUp" "I") ∈ p_G := inC_1 200 rfl rfl
theorem w_201 : (Jvm.Cond.fieldLink "DriverHost" (260 : Nat) "DriverHost$Driver" "ticksUp" "I") ∈ p_G := inC_1 201 rfl rfl
theorem w_202 : (Jvm.Cond.fieldLink "DriverHost$Driver" (53 : Nat) "DriverHost$Driver" "completedCount" "I") ∈ p_G := inC_1 202 rfl rfl
theorem w_203 : (Jvm.Cond.fieldLink "DriverHost$World" (271 : Nat) "DriverHost$Driver" "completedCount" "I") ∈ p_G := inC_1 203 rfl rfl
theorem w_204 : (Jvm.Cond.fieldLink "DriverHost" (263 : Nat) "DriverHost$Driver" "completedCount" "I") ∈ p_G := inC_1 204 rfl rfl
theorem w_205 : (Jvm.Cond.fieldLink "DriverHost$Driver" (56 : Nat) "DriverHost$Driver" "completedTime" "I") ∈ p_G := inC_1 205 rfl rfl
theorem w_206 : (Jvm.Cond.fieldLink "DriverHost$World" (274 : Nat) "DriverHost$Driver" "completedTime" "I") ∈ p_G := inC_1 206 rfl rfl
theorem w_207 : (Jvm.Cond.fieldLink "DriverHost" (266 : Nat) "DriverHost$Driver" "completedTime" "I") ∈ p_G := inC_1 207 rfl rfl
theorem w_241 : (Jvm.Cond.instantiable "DriverHost$Request" (16 : Nat)) ∈ p_G := inC_2 1 rfl rfl
theorem w_242 : (Jvm.Cond.methodLink "DriverHost$World" (50 : Nat) ({ cls := "DriverHost$Request", name := "<init>", desc := "(I)V" } : Jvm.MethodName)) ∈ p_G := inC_2 2 rfl rfl
theorem w_243 : (Jvm.Cond.instanceMethod ({ cls := "DriverHost$Request", name := "<init>", desc := "(I)V" } : Jvm.MethodName)) ∈ p_G := inC_2 3 rfl rfl
theorem w_244 : (Jvm.Cond.code ({ cls := "DriverHost$Request", name := "<init>", desc := "(I)V" } : Jvm.MethodName) prog_9_method_1_code (2 : Nat) (Option.none : Option Jvm.ClassFile.FieldType)) ∈ p_G := inC_2 4 rfl rfl
theorem w_245 : (Jvm.Cond.methodLink "DriverHost$Request" (3 : Nat) ({ cls := "java/lang/Object", name := "<init>", desc := "()V" } : Jvm.MethodName)) ∈ p_G := inC_2 5 rfl rfl
theorem w_246 : (Jvm.Cond.fieldLink "DriverHost$Request" (57 : Nat) "DriverHost$Request" "number" "I") ∈ p_G := inC_2 6 rfl rfl
theorem w_247 : (Jvm.Cond.fieldLink "DriverHost$World" (160 : Nat) "DriverHost$Request" "number" "I") ∈ p_G := inC_2 7 rfl rfl
theorem w_248 : (Jvm.Cond.fieldLink "DriverHost" (150 : Nat) "DriverHost$Request" "number" "I") ∈ p_G := inC_2 8 rfl rfl
theorem w_249 : (Jvm.Cond.fieldLink "DriverHost$Request" (9 : Nat) "DriverHost$Request" "driver" "I") ∈ p_G := inC_2 9 rfl rfl
theorem w_250 : (Jvm.Cond.fieldLink "DriverHost$World" (179 : Nat) "DriverHost$Request" "driver" "I") ∈ p_G := inC_2 10 rfl rfl
theorem w_251 : (Jvm.Cond.fieldLink "DriverHost$Request" (15 : Nat) "DriverHost$Request" "command" "I") ∈ p_G := inC_2 11 rfl rfl
theorem w_252 : (Jvm.Cond.fieldLink "DriverHost$World" (167 : Nat) "DriverHost$Request" "command" "I") ∈ p_G := inC_2 12 rfl rfl
theorem w_253 : (Jvm.Cond.fieldLink "DriverHost$Request" (18 : Nat) "DriverHost$Request" "argument" "I") ∈ p_G := inC_2 13 rfl rfl
theorem w_254 : (Jvm.Cond.fieldLink "DriverHost$World" (186 : Nat) "DriverHost$Request" "argument" "I") ∈ p_G := inC_2 14 rfl rfl
theorem w_255 : (Jvm.Cond.fieldLink "DriverHost" (135 : Nat) "DriverHost$Request" "argument" "I") ∈ p_G := inC_2 15 rfl rfl
theorem w_256 : (Jvm.Cond.fieldLink "DriverHost$Request" (21 : Nat) "DriverHost$Request" "priority" "I") ∈ p_G := inC_2 16 rfl rfl
theorem w_257 : (Jvm.Cond.fieldLink "DriverHost" (140 : Nat) "DriverHost$Request" "priority" "I") ∈ p_G := inC_2 17 rfl rfl
theorem w_258 : (Jvm.Cond.fieldLink "DriverHost$World" (241 : Nat) "DriverHost$Request" "priority" "I") ∈ p_G := inC_2 18 rfl rfl
theorem w_259 : (Jvm.Cond.fieldLink "DriverHost$Request" (24 : Nat) "DriverHost$Request" "limit" "I") ∈ p_G := inC_2 19 rfl rfl
theorem w_260 : (Jvm.Cond.fieldLink "DriverHost" (143 : Nat) "DriverHost$Request" "limit" "I") ∈ p_G := inC_2 20 rfl rfl
theorem w_261 : (Jvm.Cond.fieldLink "DriverHost$Request" (27 : Nat) "DriverHost$Request" "accepted" "I") ∈ p_G := inC_2 21 rfl rfl
theorem w_262 : (Jvm.Cond.fieldLink "DriverHost$World" (277 : Nat) "DriverHost$Request" "accepted" "I") ∈ p_G := inC_2 22 rfl rfl
theorem w_263 : (Jvm.Cond.fieldLink "DriverHost$Request" (30 : Nat) "DriverHost$Request" "state" "I") ∈ p_G := inC_2 23 rfl rfl
theorem w_264 : (Jvm.Cond.fieldLink "DriverHost$World" (214 : Nat) "DriverHost$Request" "state" "I") ∈ p_G := inC_2 24 rfl rfl
theorem w_265 : (Jvm.Cond.fieldLink "DriverHost" (157 : Nat) "DriverHost$Request" "state" "I") ∈ p_G := inC_2 25 rfl rfl
theorem w_266 : (Jvm.Cond.fieldLink "DriverHost$Request" (33 : Nat) "DriverHost$Request" "failure" "I") ∈ p_G := inC_2 26 rfl rfl
theorem w_267 : (Jvm.Cond.fieldLink "DriverHost$World" (323 : Nat) "DriverHost$Request" "failure" "I") ∈ p_G := inC_2 27 rfl rfl
theorem w_268 : (Jvm.Cond.fieldLink "DriverHost$Request" (36 : Nat) "DriverHost$Request" "result" "I") ∈ p_G := inC_2 28 rfl rfl
theorem w_269 : (Jvm.Cond.fieldLink "DriverHost$World" (263 : Nat) "DriverHost$Request" "result" "I") ∈ p_G := inC_2 29 rfl rfl
theorem w_270 : (Jvm.Cond.fieldLink "DriverHost$Request" (39 : Nat) "DriverHost$Request" "executions" "I") ∈ p_G := inC_2 30 rfl rfl
theorem w_271 : (Jvm.Cond.fieldLink "DriverHost$World" (260 : Nat) "DriverHost$Request" "executions" "I") ∈ p_G := inC_2 31 rfl rfl
theorem w_272 : (Jvm.Cond.fieldLink "DriverHost$Request" (42 : Nat) "DriverHost$Request" "crashes" "I") ∈ p_G := inC_2 32 rfl rfl
theorem w_273 : (Jvm.Cond.fieldLink "DriverHost$World" (307 : Nat) "DriverHost$Request" "crashes" "I") ∈ p_G := inC_2 33 rfl rfl
theorem w_274 : (Jvm.Cond.fieldLink "DriverHost$Request" (45 : Nat) "DriverHost$Request" "remaining" "I") ∈ p_G := inC_2 34 rfl rfl
theorem w_275 : (Jvm.Cond.fieldLink "DriverHost$World" (235 : Nat) "DriverHost$Request" "remaining" "I") ∈ p_G := inC_2 35 rfl rfl
theorem w_276 : (Jvm.Cond.fieldLink "DriverHost$Request" (48 : Nat) "DriverHost$Request" "point" "I") ∈ p_G := inC_2 36 rfl rfl
theorem w_277 : (Jvm.Cond.fieldLink "DriverHost" (168 : Nat) "DriverHost$Request" "point" "I") ∈ p_G := inC_2 37 rfl rfl
theorem w_278 : (Jvm.Cond.fieldLink "DriverHost$Request" (51 : Nat) "DriverHost$Request" "times" "I") ∈ p_G := inC_2 38 rfl rfl
theorem w_279 : (Jvm.Cond.fieldLink "DriverHost" (171 : Nat) "DriverHost$Request" "times" "I") ∈ p_G := inC_2 39 rfl rfl
theorem w_280 : (Jvm.Cond.fieldLink "DriverHost$Request" (54 : Nat) "DriverHost$Request" "ended" "I") ∈ p_G := inC_2 40 rfl rfl
theorem w_314 : (Jvm.Cond.fieldLink "DriverHost$World" (37 : Nat) "DriverHost$World" "program" "LDriverHost$Program;") ∈ p_G := inC_2 74 rfl rfl
theorem w_315 : (Jvm.Cond.fieldLink "DriverHost$History" (24 : Nat) "DriverHost$World" "program" "LDriverHost$Program;") ∈ p_G := inC_2 75 rfl rfl
theorem w_316 : (Jvm.Cond.fieldLink "DriverHost" (89 : Nat) "DriverHost$World" "program" "LDriverHost$Program;") ∈ p_G := inC_2 76 rfl rfl
theorem w_317 : (Jvm.Cond.fieldLink "DriverHost$World" (9 : Nat) "DriverHost$World" "clock" "I") ∈ p_G := inC_2 77 rfl rfl
theorem w_318 : (Jvm.Cond.fieldLink "DriverHost" (96 : Nat) "DriverHost$World" "clock" "I") ∈ p_G := inC_2 78 rfl rfl
theorem w_319 : (Jvm.Cond.fieldLink "DriverHost$World" (15 : Nat) "DriverHost$World" "requestCount" "I") ∈ p_G := inC_2 79 rfl rfl
theorem w_320 : (Jvm.Cond.fieldLink "DriverHost" (93 : Nat) "DriverHost$World" "requestCount" "I") ∈ p_G := inC_2 80 rfl rfl
theorem w_321 : (Jvm.Cond.fieldLink "DriverHost$World" (46 : Nat) "DriverHost$World" "firstDelay" "I") ∈ p_G := inC_2 81 rfl rfl
theorem w_322 : (Jvm.Cond.fieldLink "DriverHost" (281 : Nat) "DriverHost$World" "firstDelay" "I") ∈ p_G := inC_2 82 rfl rfl
theorem w_323 : (Jvm.Cond.fieldLink "DriverHost$World" (20 : Nat) "DriverHost$World" "drivers" "[LDriverHost$Driver;") ∈ p_G := inC_2 83 rfl rfl
theorem w_324 : (Jvm.Cond.fieldLink "DriverHost$World" (26 : Nat) "DriverHost$World" "requests" "[LDriverHost$Request;") ∈ p_G := inC_2 84 rfl rfl
theorem w_325 : (Jvm.Cond.fieldLink "DriverHost$World" (33 : Nat) "DriverHost$World" "journal" "LDriverHost$Journal;") ∈ p_G := inC_2 85 rfl rfl
theorem w_326 : (Jvm.Cond.fieldLink "DriverHost" (244 : Nat) "DriverHost$World" "journal" "LDriverHost$Journal;") ∈ p_G := inC_2 86 rfl rfl
theorem w_342 : (Jvm.Cond.classLink "DriverHost" (34 : Nat) "DriverHost$History") ∈ p_G := inC_2 102 rfl rfl
theorem w_343 : (Jvm.Cond.instantiable "DriverHost$History" (3 : Nat)) ∈ p_G := inC_2 103 rfl rfl
theorem w_345 : (Jvm.Cond.instanceMethod ({ cls := "DriverHost$History", name := "<init>", desc := "()V" } : Jvm.MethodName)) ∈ p_G := inC_2 105 rfl rfl
theorem w_346 : (Jvm.Cond.code ({ cls := "DriverHost$History", name := "<init>", desc := "()V" } : Jvm.MethodName) prog_5_method_1_code (1 : Nat) (Option.none : Option Jvm.ClassFile.FieldType)) ∈ p_G := inC_2 106 rfl rfl
theorem w_347 : (Jvm.Cond.methodLink "DriverHost$History" (3 : Nat) ({ cls := "java/lang/Object", name := "<init>", desc := "()V" } : Jvm.MethodName)) ∈ p_G := inC_2 107 rfl rfl
theorem w_348 : (Jvm.Cond.classLink "DriverHost$History" (9 : Nat) "DriverHost$World") ∈ p_G := inC_2 108 rfl rfl
theorem w_350 : (Jvm.Cond.fieldLink "DriverHost$History" (11 : Nat) "DriverHost$History" "worlds" "[LDriverHost$World;") ∈ p_G := inC_2 110 rfl rfl
theorem w_351 : (Jvm.Cond.fieldLink "DriverHost$History" (17 : Nat) "DriverHost$History" "next" "I") ∈ p_G := inC_2 111 rfl rfl
theorem w_352 : (Jvm.Cond.fieldLink "DriverHost$History" (21 : Nat) "DriverHost$History" "count" "I") ∈ p_G := inC_2 112 rfl rfl
theorem w_353 : (Jvm.Cond.fieldLink "DriverHost" (291 : Nat) "DriverHost$History" "count" "I") ∈ p_G := inC_2 113 rfl rfl
theorem w_361 : (Jvm.Cond.fieldLink "DriverHost" (9 : Nat) "DriverHost" "buffer" "[B") ∈ p_G := inC_2 121 rfl rfl
theorem w_362 : (Jvm.Cond.fieldLink "DriverHost" (13 : Nat) "DriverHost" "fed" "I") ∈ p_G := inC_2 122 rfl rfl
theorem w_363 : (Jvm.Cond.fieldLink "DriverHost" (17 : Nat) "DriverHost" "errorAt" "I") ∈ p_G := inC_2 123 rfl rfl
theorem w_364 : (Jvm.Cond.fieldLink "DriverHost" (30 : Nat) "DriverHost" "world" "LDriverHost$World;") ∈ p_G := inC_2 124 rfl rfl
theorem w_365 : (Jvm.Cond.fieldLink "DriverHost" (37 : Nat) "DriverHost" "history" "LDriverHost$History;") ∈ p_G := inC_2 125 rfl rfl
theorem w_366 : (Jvm.Cond.fieldLink "DriverHost" (41 : Nat) "DriverHost" "kept" "LDriverHost$World;") ∈ p_G := inC_2 126 rfl rfl
theorem w_367 : (Jvm.Cond.fieldLink "DriverHost" (44 : Nat) "DriverHost" "hasKept" "Z") ∈ p_G := inC_2 127 rfl rfl
theorem w_368 : (Jvm.Cond.fieldLink "DriverHost" (48 : Nat) "DriverHost" "trial" "LDriverHost$World;") ∈ p_G := inC_2 128 rfl rfl
theorem w_386 : (Jvm.Cond.methodLink "DriverHostLaw" (113 : Nat) ({ cls := "DriverHost", name := "feed", desc := "(IIIII)I" } : Jvm.MethodName)) ∈ p_G := inC_2 146 rfl rfl
theorem w_387 : (Jvm.Cond.instanceMethod ({ cls := "DriverHost", name := "feed", desc := "(IIIII)I" } : Jvm.MethodName)) ∈ p_G := inC_2 147 rfl rfl
theorem w_388 : (Jvm.Cond.selects "DriverHost" ({ cls := "DriverHost", name := "feed", desc := "(IIIII)I" } : Jvm.MethodName) ({ cls := "DriverHost", name := "feed", desc := "(IIIII)I" } : Jvm.MethodName)) ∈ p_G := inC_2 148 rfl rfl
theorem w_389 : (Jvm.Cond.code ({ cls := "DriverHost", name := "feed", desc := "(IIIII)I" } : Jvm.MethodName) prog_1_method_2_code (6 : Nat) (Option.some Jvm.ClassFile.FieldType.int)) ∈ p_G := inC_2 149 rfl rfl
theorem w_390 : (Jvm.Cond.methodLink "DriverHost" (51 : Nat) ({ cls := "DriverHost", name := "append", desc := "(I)V" } : Jvm.MethodName)) ∈ p_G := inC_2 150 rfl rfl
theorem w_392 : (Jvm.Cond.instanceMethod ({ cls := "DriverHost", name := "append", desc := "(I)V" } : Jvm.MethodName)) ∈ p_G := inC_2 152 rfl rfl
theorem w_393 : (Jvm.Cond.code ({ cls := "DriverHost", name := "append", desc := "(I)V" } : Jvm.MethodName) prog_1_method_3_code (3 : Nat) (Option.none : Option Jvm.ClassFile.FieldType)) ∈ p_G := inC_2 153 rfl rfl
theorem w_394 : (Jvm.Cond.methodLink "DriverHostLaw" (123 : Nat) ({ cls := "DriverHost", name := "errorPosition", desc := "()I" } : Jvm.MethodName)) ∈ p_G := inC_2 154 rfl rfl
theorem w_395 : (Jvm.Cond.instanceMethod ({ cls := "DriverHost", name := "errorPosition", desc := "()I" } : Jvm.MethodName)) ∈ p_G := inC_2 155 rfl rfl
theorem w_396 : (Jvm.Cond.selects "DriverHost" ({ cls := "DriverHost", name := "errorPosition", desc := "()I" } : Jvm.MethodName) ({ cls := "DriverHost", name := "errorPosition", desc := "()I" } : Jvm.MethodName)) ∈ p_G := inC_2 156 rfl rfl
theorem w_397 : (Jvm.Cond.code ({ cls := "DriverHost", name := "errorPosition", desc := "()I" } : Jvm.MethodName) prog_1_method_5_code (1 : Nat) (Option.some Jvm.ClassFile.FieldType.int)) ∈ p_G := inC_2 157 rfl rfl
theorem w_398 : (Jvm.Cond.methodLink "DriverHostLaw" (128 : Nat) ({ cls := "DriverHost", name := "driverCount", desc := "()I" } : Jvm.MethodName)) ∈ p_G := inC_2 158 rfl rfl
theorem w_399 : (Jvm.Cond.instanceMethod ({ cls := "DriverHost", name := "driverCount", desc := "()I" } : Jvm.MethodName)) ∈ p_G := inC_2 159 rfl rfl
theorem w_400 : (Jvm.Cond.selects "DriverHost" ({ cls := "DriverHost", name := "driverCount", desc := "()I" } : Jvm.MethodName) ({ cls := "DriverHost", name := "driverCount", desc := "()I" } : Jvm.MethodName)) ∈ p_G := inC_2 160 rfl rfl
theorem w_401 : (Jvm.Cond.code ({ cls := "DriverHost", name := "driverCount", desc := "()I" } : Jvm.MethodName) prog_1_method_6_code (1 : Nat) (Option.some Jvm.ClassFile.FieldType.int)) ∈ p_G := inC_2 161 rfl rfl
theorem w_402 : (Jvm.Cond.methodLink "DriverHostLaw" (132 : Nat) ({ cls := "DriverHost", name := "commandCount", desc := "()I" } : Jvm.MethodName)) ∈ p_G := inC_2 162 rfl rfl
theorem w_403 : (Jvm.Cond.instanceMethod ({ cls := "DriverHost", name := "commandCount", desc := "()I" } : Jvm.MethodName)) ∈ p_G := inC_2 163 rfl rfl
theorem w_404 : (Jvm.Cond.selects "DriverHost" ({ cls := "DriverHost", name := "commandCount", desc := "()I" } : Jvm.MethodName) ({ cls := "DriverHost", name := "commandCount", desc := "()I" } : Jvm.MethodName)) ∈ p_G := inC_2 164 rfl rfl
theorem w_405 : (Jvm.Cond.code ({ cls := "DriverHost", name := "commandCount", desc := "()I" } : Jvm.MethodName) prog_1_method_7_code (1 : Nat) (Option.some Jvm.ClassFile.FieldType.int)) ∈ p_G := inC_2 165 rfl rfl
theorem w_406 : (Jvm.Cond.methodLink "DriverHostLaw" (136 : Nat) ({ cls := "DriverHost", name := "requestCount", desc := "()I" } : Jvm.MethodName)) ∈ p_G := inC_2 166 rfl rfl
theorem w_407 : (Jvm.Cond.instanceMethod ({ cls := "DriverHost", name := "requestCount", desc := "()I" } : Jvm.MethodName)) ∈ p_G := inC_2 167 rfl rfl
theorem w_408 : (Jvm.Cond.selects "DriverHost" ({ cls := "DriverHost", name := "requestCount", desc := "()I" } : Jvm.MethodName) ({ cls := "DriverHost", name := "requestCount", desc := "()I" } : Jvm.MethodName)) ∈ p_G := inC_2 168 rfl rfl
theorem w_409 : (Jvm.Cond.code ({ cls := "DriverHost", name := "requestCount", desc := "()I" } : Jvm.MethodName) prog_1_method_8_code (1 : Nat) (Option.some Jvm.ClassFile.FieldType.int)) ∈ p_G := inC_2 169 rfl rfl
theorem w_410 : (Jvm.Cond.methodLink "DriverHostLaw" (140 : Nat) ({ cls := "DriverHost", name := "clock", desc := "()I" } : Jvm.MethodName)) ∈ p_G := inC_2 170 rfl rfl
theorem w_411 : (Jvm.Cond.instanceMethod ({ cls := "DriverHost", name := "clock", desc := "()I" } : Jvm.MethodName)) ∈ p_G := inC_2 171 rfl rfl
theorem w_412 : (Jvm.Cond.selects "DriverHost" ({ cls := "DriverHost", name := "clock", desc := "()I" } : Jvm.MethodName) ({ cls := "DriverHost", name := "clock", desc := "()I" } : Jvm.MethodName)) ∈ p_G := inC_2 172 rfl rfl
theorem w_413 : (Jvm.Cond.code ({ cls := "DriverHost", name := "clock", desc := "()I" } : Jvm.MethodName) prog_1_method_9_code (1 : Nat) (Option.some Jvm.ClassFile.FieldType.int)) ∈ p_G := inC_2 173 rfl rfl
theorem w_414 : (Jvm.Cond.methodLink "DriverHostLaw" (213 : Nat) ({ cls := "DriverHost", name := "recordCount", desc := "()I" } : Jvm.MethodName)) ∈ p_G := inC_2 174 rfl rfl
theorem w_415 : (Jvm.Cond.instanceMethod ({ cls := "DriverHost", name := "recordCount", desc := "()I" } : Jvm.MethodName)) ∈ p_G := inC_2 175 rfl rfl
theorem w_416 : (Jvm.Cond.selects "DriverHost" ({ cls := "DriverHost", name := "recordCount", desc := "()I" } : Jvm.MethodName) ({ cls := "DriverHost", name := "recordCount", desc := "()I" } : Jvm.MethodName)) ∈ p_G := inC_2 176 rfl rfl
theorem w_417 : (Jvm.Cond.code ({ cls := "DriverHost", name := "recordCount", desc := "()I" } : Jvm.MethodName) prog_1_method_32_code (1 : Nat) (Option.some Jvm.ClassFile.FieldType.int)) ∈ p_G := inC_2 177 rfl rfl
theorem w_418 : (Jvm.Cond.methodLink "DriverHostLaw" (220 : Nat) ({ cls := "DriverHost", name := "total", desc := "(I)I" } : Jvm.MethodName)) ∈ p_G := inC_2 178 rfl rfl
theorem w_419 : (Jvm.Cond.instanceMethod ({ cls := "DriverHost", name := "total", desc := "(I)I" } : Jvm.MethodName)) ∈ p_G := inC_2 179 rfl rfl
theorem w_420 : (Jvm.Cond.selects "DriverHost" ({ cls := "DriverHost", name := "total", desc := "(I)I" } : Jvm.MethodName) ({ cls := "DriverHost", name := "total", desc := "(I)I" } : Jvm.MethodName)) ∈ p_G := inC_2 180 rfl rfl
theorem w_421 : (Jvm.Cond.code ({ cls := "DriverHost", name := "total", desc := "(I)I" } : Jvm.MethodName) prog_1_method_34_code (2 : Nat) (Option.some Jvm.ClassFile.FieldType.int)) ∈ p_G := inC_2 181 rfl rfl
theorem w_422 : (Jvm.Cond.methodLink "DriverHost" (257 : Nat) ({ cls := "DriverHost$Journal", name := "totalOf", desc := "(I)I" } : Jvm.MethodName)) ∈ p_G := inC_2 182 rfl rfl
theorem w_423 : (Jvm.Cond.instanceMethod ({ cls := "DriverHost$Journal", name := "totalOf", desc := "(I)I" } : Jvm.MethodName)) ∈ p_G := inC_2 183 rfl rfl
theorem w_424 : (Jvm.Cond.selects "DriverHost$Journal" ({ cls := "DriverHost$Journal", name := "totalOf", desc := "(I)I" } : Jvm.MethodName) ({ cls := "DriverHost$Journal", name := "totalOf", desc := "(I)I" } : Jvm.MethodName)) ∈ p_G := inC_2 184 rfl rfl
theorem w_425 : (Jvm.Cond.code ({ cls := "DriverHost$Journal", name := "totalOf", desc := "(I)I" } : Jvm.MethodName) prog_6_method_5_code (2 : Nat) (Option.some Jvm.ClassFile.FieldType.int)) ∈ p_G := inC_2 185 rfl rfl
theorem w_426 : (Jvm.Cond.methodLink "DriverHostLaw" (240 : Nat) ({ cls := "DriverHost", name := "undoCount", desc := "()I" } : Jvm.MethodName)) ∈ p_G := inC_2 186 rfl rfl
theorem w_427 : (Jvm.Cond.instanceMethod ({ cls := "DriverHost", name := "undoCount", desc := "()I" } : Jvm.MethodName)) ∈ p_G := inC_2 187 rfl rfl
theorem w_428 : (Jvm.Cond.selects "DriverHost" ({ cls := "DriverHost", name := "undoCount", desc := "()I" } : Jvm.MethodName) ({ cls := "DriverHost", name := "undoCount", desc := "()I" } : Jvm.MethodName)) ∈ p_G := inC_2 188 rfl rfl
theorem w_429 : (Jvm.Cond.code ({ cls := "DriverHost", name := "undoCount", desc := "()I" } : Jvm.MethodName) prog_1_method_41_code (1 : Nat) (Option.some Jvm.ClassFile.FieldType.int)) ∈ p_G := inC_2 189 rfl rfl
theorem w_430 : (Jvm.Cond.methodLink "DriverHostLaw" (244 : Nat) ({ cls := "DriverHost", name := "undo", desc := "()I" } : Jvm.MethodName)) ∈ p_G := inC_2 190 rfl rfl
theorem w_431 : (Jvm.Cond.instanceMethod ({ cls := "DriverHost", name := "undo", desc := "()I" } : Jvm.MethodName)) ∈ p_G := inC_2 191 rfl rfl
theorem w_432 : (Jvm.Cond.selects "DriverHost" ({ cls := "DriverHost", name := "undo", desc := "()I" } : Jvm.MethodName) ({ cls := "DriverHost", name := "undo", desc := "()I" } : Jvm.MethodName)) ∈ p_G := inC_2 192 rfl rfl
theorem w_433 : (Jvm.Cond.code ({ cls := "DriverHost", name := "undo", desc := "()I" } : Jvm.MethodName) prog_1_method_42_code (1 : Nat) (Option.some Jvm.ClassFile.FieldType.int)) ∈ p_G := inC_2 193 rfl rfl
theorem w_434 : (Jvm.Cond.methodLink "DriverHost" (294 : Nat) ({ cls := "DriverHost$History", name := "takeBack", desc := "(LDriverHost$World;)I" } : Jvm.MethodName)) ∈ p_G := inC_2 194 rfl rfl
theorem w_435 : (Jvm.Cond.instanceMethod ({ cls := "DriverHost$History", name := "takeBack", desc := "(LDriverHost$World;)I" } : Jvm.MethodName)) ∈ p_G := inC_2 195 rfl rfl
theorem w_436 : (Jvm.Cond.selects "DriverHost$History" ({ cls := "DriverHost$History", name := "takeBack", desc := "(LDriverHost$World;)I" } : Jvm.MethodName) ({ cls := "DriverHost$History", name := "takeBack", desc := "(LDriverHost$World;)I" } : Jvm.MethodName)) ∈ p_G := inC_2 196 rfl rfl
theorem w_437 : (Jvm.Cond.code ({ cls := "DriverHost$History", name := "takeBack", desc := "(LDriverHost$World;)I" } : Jvm.MethodName) prog_5_method_4_code (3 : Nat) (Option.some Jvm.ClassFile.FieldType.int)) ∈ p_G := inC_2 197 rfl rfl
theorem w_438 : (Jvm.Cond.methodLink "DriverHost$History" (31 : Nat) ({ cls := "DriverHost$World", name := "copyFrom", desc := "(LDriverHost$World;)V" } : Jvm.MethodName)) ∈ p_G := inC_2 198 rfl rfl
theorem w_439 : (Jvm.Cond.instanceMethod ({ cls := "DriverHost$World", name := "copyFrom", desc := "(LDriverHost$World;)V" } : Jvm.MethodName)) ∈ p_G := inC_2 199 rfl rfl
theorem w_440 : (Jvm.Cond.selects "DriverHost$World" ({ cls := "DriverHost$World", name := "copyFrom", desc := "(LDriverHost$World;)V" } : Jvm.MethodName) ({ cls := "DriverHost$World", name := "copyFrom", desc := "(LDriverHost$World;)V" } : Jvm.MethodName)) ∈ p_G := inC_2 200 rfl rfl
theorem w_441 : (Jvm.Cond.code ({ cls := "DriverHost$World", name := "copyFrom", desc := "(LDriverHost$World;)V" } : Jvm.MethodName) prog_12_method_2_code (3 : Nat) (Option.none : Option Jvm.ClassFile.FieldType)) ∈ p_G := inC_2 201 rfl rfl
theorem w_442 : (Jvm.Cond.methodLink "DriverHost$World" (51 : Nat) ({ cls := "DriverHost$Driver", name := "copyFrom", desc := "(LDriverHost$Driver;)V" } : Jvm.MethodName)) ∈ p_G := inC_2 202 rfl rfl
theorem w_443 : (Jvm.Cond.instanceMethod ({ cls := "DriverHost$Driver", name := "copyFrom", desc := "(LDriverHost$Driver;)V" } : Jvm.MethodName)) ∈ p_G := inC_2 203 rfl rfl
theorem w_444 : (Jvm.Cond.selects "DriverHost$Driver" ({ cls := "DriverHost$Driver", name := "copyFrom", desc := "(LDriverHost$Driver;)V" } : Jvm.MethodName) ({ cls := "DriverHost$Driver", name := "copyFrom", desc := "(LDriverHost$Driver;)V" } : Jvm.MethodName)) ∈ p_G := inC_2 204 rfl rfl
theorem w_445 : (Jvm.Cond.code ({ cls := "DriverHost$Driver", name := "copyFrom", desc := "(LDriverHost$Driver;)V" } : Jvm.MethodName) prog_4_method_2_code (2 : Nat) (Option.none : Option Jvm.ClassFile.FieldType)) ∈ p_G := inC_2 205 rfl rfl
theorem w_446 : (Jvm.Cond.methodLink "DriverHost$Driver" (62 : Nat) ({ cls := "java/lang/System", name := "arraycopy", desc := "(Ljava/lang/Object;ILjava/lang/Object;II)V" } : Jvm.MethodName)) ∈ p_G := inC_2 206 rfl rfl
theorem w_447 : (Jvm.Cond.static ({ cls := "java/lang/System", name := "arraycopy", desc := "(Ljava/lang/Object;ILjava/lang/Object;II)V" } : Jvm.MethodName)) ∈ p_G := inC_2 207 rfl rfl
theorem w_448 : (Jvm.Cond.native ({ cls := "java/lang/System", name := "arraycopy", desc := "(Ljava/lang/Object;ILjava/lang/Object;II)V" } : Jvm.MethodName)) ∈ p_G := inC_2 208 rfl rfl
theorem w_449 : (Jvm.Cond.methodLink "DriverHost$World" (55 : Nat) ({ cls := "DriverHost$Request", name := "copyFrom", desc := "(LDriverHost$Request;)V" } : Jvm.MethodName)) ∈ p_G := inC_2 209 rfl rfl
theorem w_450 : (Jvm.Cond.instanceMethod ({ cls := "DriverHost$Request", name := "copyFrom", desc := "(LDriverHost$Request;)V" } : Jvm.MethodName)) ∈ p_G := inC_2 210 rfl rfl
theorem w_451 : (Jvm.Cond.selects "DriverHost$Request" ({ cls := "DriverHost$Request", name := "copyFrom", desc := "(LDriverHost$Request;)V" } : Jvm.MethodName) ({ cls := "DriverHost$Request", name := "copyFrom", desc := "(LDriverHost$Request;)V" } : Jvm.MethodName)) ∈ p_G := inC_2 211 rfl rfl
theorem w_452 : (Jvm.Cond.code ({ cls := "DriverHost$Request", name := "copyFrom", desc := "(LDriverHost$Request;)V" } : Jvm.MethodName) prog_9_method_3_code (2 : Nat) (Option.none : Option Jvm.ClassFile.FieldType)) ∈ p_G := inC_2 212 rfl rfl
theorem w_453 : (Jvm.Cond.methodLink "DriverHost$World" (58 : Nat) ({ cls := "DriverHost$Journal", name := "copyFrom", desc := "(LDriverHost$Journal;)V" } : Jvm.MethodName)) ∈ p_G := inC_2 213 rfl rfl
theorem w_454 : (Jvm.Cond.instanceMethod ({ cls := "DriverHost$Journal", name := "copyFrom", desc := "(LDriverHost$Journal;)V" } : Jvm.MethodName)) ∈ p_G := inC_2 214 rfl rfl
theorem w_455 : (Jvm.Cond.selects "DriverHost$Journal" ({ cls := "DriverHost$Journal", name := "copyFrom", desc := "(LDriverHost$Journal;)V" } : Jvm.MethodName) ({ cls := "DriverHost$Journal", name := "copyFrom", desc := "(LDriverHost$Journal;)V" } : Jvm.MethodName)) ∈ p_G := inC_2 215 rfl rfl
theorem w_456 : (Jvm.Cond.code ({ cls := "DriverHost$Journal", name := "copyFrom", desc := "(LDriverHost$Journal;)V" } : Jvm.MethodName) prog_6_method_2_code (2 : Nat) (Option.none : Option Jvm.ClassFile.FieldType)) ∈ p_G := inC_2 216 rfl rfl
theorem w_457 : (Jvm.Cond.methodLink "DriverHost$Journal" (34 : Nat) ({ cls := "java/lang/System", name := "arraycopy", desc := "(Ljava/lang/Object;ILjava/lang/Object;II)V" } : Jvm.MethodName)) ∈ p_G := inC_2 217 rfl rfl
theorem w_458 : (Jvm.Cond.methodLink "DriverHostLaw" (248 : Nat) ({ cls := "DriverHost", name := "saveState", desc := "()V" } : Jvm.MethodName)) ∈ p_G := inC_2 218 rfl rfl
theorem w_459 : (Jvm.Cond.instanceMethod ({ cls := "DriverHost", name := "saveState", desc := "()V" } : Jvm.MethodName)) ∈ p_G := inC_2 219 rfl rfl
theorem w_460 : (Jvm.Cond.selects "DriverHost" ({ cls := "DriverHost", name := "saveState", desc := "()V" } : Jvm.MethodName) ({ cls := "DriverHost", name := "saveState", desc := "()V" } : Jvm.MethodName)) ∈ p_G := inC_2 220 rfl rfl
theorem w_461 : (Jvm.Cond.code ({ cls := "DriverHost", name := "saveState", desc := "()V" } : Jvm.MethodName) prog_1_method_43_code (1 : Nat) (Option.none : Option Jvm.ClassFile.FieldType)) ∈ p_G := inC_2 221 rfl rfl
theorem w_462 : (Jvm.Cond.methodLink "DriverHost" (284 : Nat) ({ cls := "DriverHost$World", name := "copyFrom", desc := "(LDriverHost$World;)V" } : Jvm.MethodName)) ∈ p_G := inC_2 222 rfl rfl
theorem w_463 : (Jvm.Cond.methodLink "DriverHostLaw" (252 : Nat) ({ cls := "DriverHost", name := "restoreState", desc := "()Z" } : Jvm.MethodName)) ∈ p_G := inC_2 223 rfl rfl
theorem w_464 : (Jvm.Cond.instanceMethod ({ cls := "DriverHost", name := "restoreState", desc := "()Z" } : Jvm.MethodName)) ∈ p_G := inC_2 224 rfl rfl
theorem w_465 : (Jvm.Cond.selects "DriverHost" ({ cls := "DriverHost", name := "restoreState", desc := "()Z" } : Jvm.MethodName) ({ cls := "DriverHost", name := "restoreState", desc := "()Z" } : Jvm.MethodName)) ∈ p_G := inC_2 225 rfl rfl
theorem w_466 : (Jvm.Cond.code ({ cls := "DriverHost", name := "restoreState", desc := "()Z" } : Jvm.MethodName) prog_1_method_44_code (1 : Nat) (Option.some Jvm.ClassFile.FieldType.boolean)) ∈ p_G := inC_2 226 rfl rfl
theorem w_467 : (Jvm.Cond.methodLink "DriverHost" (83 : Nat) ({ cls := "DriverHost$History", name := "clear", desc := "()V" } : Jvm.MethodName)) ∈ p_G := inC_2 227 rfl rfl
theorem w_468 : (Jvm.Cond.instanceMethod ({ cls := "DriverHost$History", name := "clear", desc := "()V" } : Jvm.MethodName)) ∈ p_G := inC_2 228 rfl rfl
theorem w_469 : (Jvm.Cond.selects "DriverHost$History" ({ cls := "DriverHost$History", name := "clear", desc := "()V" } : Jvm.MethodName) ({ cls := "DriverHost$History", name := "clear", desc := "()V" } : Jvm.MethodName)) ∈ p_G := inC_2 229 rfl rfl
theorem w_470 : (Jvm.Cond.code ({ cls := "DriverHost$History", name := "clear", desc := "()V" } : Jvm.MethodName) prog_5_method_2_code (1 : Nat) (Option.none : Option Jvm.ClassFile.FieldType)) ∈ p_G := inC_2 230 rfl rfl
theorem w_471 : (Jvm.Cond.methodLink "DriverHostLaw" (117 : Nat) ({ cls := "DriverHostLaw", name := "load", desc := "(LDriverHost;I[J)I" } : Jvm.MethodName)) ∈ p_G := inC_2 231 rfl rfl
theorem w_472 : (Jvm.Cond.static ({ cls := "DriverHostLaw", name := "load", desc := "(LDriverHost;I[J)I" } : Jvm.MethodName)) ∈ p_G := inC_2 232 rfl rfl
theorem w_473 : (Jvm.Cond.codeWith ({ cls := "DriverHostLaw", name := "load", desc := "(LDriverHost;I[J)I" } : Jvm.MethodName) method_3_code (4 : Nat) (Option.some Jvm.ClassFile.FieldType.int) [((0 : Nat), (9 : Nat), (12 : Nat), (13 : Nat))]) ∈ p_G := inC_2 233 rfl rfl
theorem w_474 : (Jvm.Cond.classLink "DriverHostLaw" (13 : Nat) "java/lang/IllegalArgumentException") ∈ p_G := inC_2 234 rfl rfl
theorem w_475 : (Jvm.Cond.methodLink "DriverHostLaw" (7 : Nat) ({ cls := "DriverHost", name := "load", desc := "(I)I" } : Jvm.MethodName)) ∈ p_G := inC_2 235 rfl rfl
theorem w_476 : (Jvm.Cond.instanceMethod ({ cls := "DriverHost", name := "load", desc := "(I)I" } : Jvm.MethodName)) ∈ p_G := inC_2 236 rfl rfl
theorem w_477 : (Jvm.Cond.selects "DriverHost" ({ cls := "DriverHost", name := "load", desc := "(I)I" } : Jvm.MethodName) ({ cls := "DriverHost", name := "load", desc := "(I)I" } : Jvm.MethodName)) ∈ p_G := inC_2 237 rfl rfl
theorem w_478 : (Jvm.Cond.code ({ cls := "DriverHost", name := "load", desc := "(I)I" } : Jvm.MethodName) prog_1_method_4_code (3 : Nat) (Option.some Jvm.ClassFile.FieldType.int)) ∈ p_G := inC_2 238 rfl rfl
theorem w_479 : (Jvm.Cond.classLink "DriverHost" (54 : Nat) "java/lang/IllegalArgumentException") ∈ p_G := inC_2 239 rfl rfl
theorem w_545 : (Jvm.Cond.classLink "DriverHost" (61 : Nat) "DriverHost$Reader") ∈ p_G := inC_3 65 rfl rfl
theorem w_546 : (Jvm.Cond.instantiable "DriverHost$Reader" (7 : Nat)) ∈ p_G := inC_3 66 rfl rfl
theorem w_547 : (Jvm.Cond.methodLink "DriverHost" (63 : Nat) ({ cls := "DriverHost$Reader", name := "<init>", desc := "([BIZ)V" } : Jvm.MethodName)) ∈ p_G := inC_3 67 rfl rfl
theorem w_548 : (Jvm.Cond.instanceMethod ({ cls := "DriverHost$Reader", name := "<init>", desc := "([BIZ)V" } : Jvm.MethodName)) ∈ p_G := inC_3 68 rfl rfl
theorem w_549 : (Jvm.Cond.code ({ cls := "DriverHost$Reader", name := "<init>", desc := "([BIZ)V" } : Jvm.MethodName) prog_8_method_1_code (4 : Nat) (Option.none : Option Jvm.ClassFile.FieldType)) ∈ p_G := inC_3 69 rfl rfl
theorem w_550 : (Jvm.Cond.methodLink "DriverHost$Reader" (3 : Nat) ({ cls := "java/lang/Object", name := "<init>", desc := "()V" } : Jvm.MethodName)) ∈ p_G := inC_3 70 rfl rfl
theorem w_551 : (Jvm.Cond.classLink "DriverHost$Reader" (22 : Nat) "DriverHost$Tokens") ∈ p_G := inC_3 71 rfl rfl
theorem w_552 : (Jvm.Cond.instantiable "DriverHost$Tokens" (11 : Nat)) ∈ p_G := inC_3 72 rfl rfl
theorem w_553 : (Jvm.Cond.methodLink "DriverHost$Reader" (24 : Nat) ({ cls := "DriverHost$Tokens", name := "<init>", desc := "([BI)V" } : Jvm.MethodName)) ∈ p_G := inC_3 73 rfl rfl
theorem w_554 : (Jvm.Cond.instanceMethod ({ cls := "DriverHost$Tokens", name := "<init>", desc := "([BI)V" } : Jvm.MethodName)) ∈ p_G := inC_3 74 rfl rfl
theorem w_555 : (Jvm.Cond.code ({ cls := "DriverHost$Tokens", name := "<init>", desc := "([BI)V" } : Jvm.MethodName) prog_10_method_1_code (3 : Nat) (Option.none : Option Jvm.ClassFile.FieldType)) ∈ p_G := inC_3 75 rfl rfl
theorem w_556 : (Jvm.Cond.methodLink "DriverHost$Tokens" (3 : Nat) ({ cls := "java/lang/Object", name := "<init>", desc := "()V" } : Jvm.MethodName)) ∈ p_G := inC_3 76 rfl rfl
theorem w_557 : (Jvm.Cond.methodLink "DriverHost$Tokens" (28 : Nat) ({ cls := "java/lang/Math", name := "min", desc := "(II)I" } : Jvm.MethodName)) ∈ p_G := inC_3 77 rfl rfl
theorem w_558 : (Jvm.Cond.static ({ cls := "java/lang/Math", name := "min", desc := "(II)I" } : Jvm.MethodName)) ∈ p_G := inC_3 78 rfl rfl
theorem w_559 : (Jvm.Cond.code ({ cls := "java/lang/Math", name := "min", desc := "(II)I" } : Jvm.MethodName) prog_21_method_69_code (2 : Nat) (Option.some Jvm.ClassFile.FieldType.int)) ∈ p_G := inC_3 79 rfl rfl
theorem w_560 : (Jvm.Cond.methodLink "DriverHost$Tokens" (34 : Nat) ({ cls := "java/lang/Math", name := "max", desc := "(II)I" } : Jvm.MethodName)) ∈ p_G := inC_3 80 rfl rfl
theorem w_561 : (Jvm.Cond.classLink "DriverHost$Tokens" (53 : Nat) "DriverHost$Word") ∈ p_G := inC_3 81 rfl rfl
theorem w_563 : (Jvm.Cond.fieldLink "DriverHost$Tokens" (24 : Nat) "DriverHost$Tokens" "text" "[B") ∈ p_G := inC_3 83 rfl rfl
theorem w_564 : (Jvm.Cond.fieldLink "DriverHost$Tokens" (37 : Nat) "DriverHost$Tokens" "length" "I") ∈ p_G := inC_3 84 rfl rfl
theorem w_565 : (Jvm.Cond.fieldLink "DriverHost$Tokens" (40 : Nat) "DriverHost$Tokens" "kinds" "[I") ∈ p_G := inC_3 85 rfl rfl
theorem w_566 : (Jvm.Cond.fieldLink "DriverHost$Tokens" (44 : Nat) "DriverHost$Tokens" "froms" "[I") ∈ p_G := inC_3 86 rfl rfl
theorem w_567 : (Jvm.Cond.fieldLink "DriverHost$Tokens" (47 : Nat) "DriverHost$Tokens" "ends" "[I") ∈ p_G := inC_3 87 rfl rfl
theorem w_568 : (Jvm.Cond.fieldLink "DriverHost$Tokens" (50 : Nat) "DriverHost$Tokens" "values" "[I") ∈ p_G := inC_3 88 rfl rfl
theorem w_569 : (Jvm.Cond.fieldLink "DriverHost$Tokens" (55 : Nat) "DriverHost$Tokens" "words" "[LDriverHost$Word;") ∈ p_G := inC_3 89 rfl rfl
theorem w_570 : (Jvm.Cond.fieldLink "DriverHost$Tokens" (9 : Nat) "DriverHost$Tokens" "count" "I") ∈ p_G := inC_3 90 rfl rfl
theorem w_571 : (Jvm.Cond.fieldLink "DriverHost$Tokens" (15 : Nat) "DriverHost$Tokens" "at" "I") ∈ p_G := inC_3 91 rfl rfl
theorem w_572 : (Jvm.Cond.fieldLink "DriverHost$Reader" (229 : Nat) "DriverHost$Tokens" "at" "I") ∈ p_G := inC_3 92 rfl rfl
theorem w_573 : (Jvm.Cond.fieldLink "DriverHost$Tokens" (18 : Nat) "DriverHost$Tokens" "error" "I") ∈ p_G := inC_3 93 rfl rfl
theorem w_574 : (Jvm.Cond.fieldLink "DriverHost" (76 : Nat) "DriverHost$Tokens" "error" "I") ∈ p_G := inC_3 94 rfl rfl
theorem w_575 : (Jvm.Cond.fieldLink "DriverHost$Tokens" (21 : Nat) "DriverHost$Tokens" "errorAt" "I") ∈ p_G := inC_3 95 rfl rfl
theorem w_576 : (Jvm.Cond.fieldLink "DriverHost" (73 : Nat) "DriverHost$Tokens" "errorAt" "I") ∈ p_G := inC_3 96 rfl rfl
theorem w_600 : (Jvm.Cond.classLink "DriverHost$Reader" (34 : Nat) "DriverHost$Program") ∈ p_G := inC_3 120 rfl rfl
theorem w_601 : (Jvm.Cond.methodLink "DriverHost$Reader" (36 : Nat) ({ cls := "DriverHost$Program", name := "<init>", desc := "(I)V" } : Jvm.MethodName)) ∈ p_G := inC_3 121 rfl rfl
theorem w_602 : (Jvm.Cond.fieldLink "DriverHost$Reader" (27 : Nat) "DriverHost$Reader" "tokens" "LDriverHost$Tokens;") ∈ p_G := inC_3 122 rfl rfl
theorem w_603 : (Jvm.Cond.fieldLink "DriverHost" (69 : Nat) "DriverHost$Reader" "tokens" "LDriverHost$Tokens;") ∈ p_G := inC_3 123 rfl rfl
theorem w_604 : (Jvm.Cond.fieldLink "DriverHost$Reader" (31 : Nat) "DriverHost$Reader" "asking" "Z") ∈ p_G := inC_3 124 rfl rfl
theorem w_605 : (Jvm.Cond.fieldLink "DriverHost$Reader" (39 : Nat) "DriverHost$Reader" "program" "LDriverHost$Program;") ∈ p_G := inC_3 125 rfl rfl
theorem w_606 : (Jvm.Cond.fieldLink "DriverHost" (79 : Nat) "DriverHost$Reader" "program" "LDriverHost$Program;") ∈ p_G := inC_3 126 rfl rfl
theorem w_607 : (Jvm.Cond.fieldLink "DriverHost$Reader" (47 : Nat) "DriverHost$Reader" "code" "LDriverHost$Code;") ∈ p_G := inC_3 127 rfl rfl
theorem w_608 : (Jvm.Cond.fieldLink "DriverHost" (305 : Nat) "DriverHost$Reader" "code" "LDriverHost$Code;") ∈ p_G := inC_3 128 rfl rfl
theorem w_609 : (Jvm.Cond.fieldLink "DriverHost$Reader" (9 : Nat) "DriverHost$Reader" "asksFirst" "Z") ∈ p_G := inC_3 129 rfl rfl
theorem w_610 : (Jvm.Cond.fieldLink "DriverHost" (302 : Nat) "DriverHost$Reader" "asksFirst" "Z") ∈ p_G := inC_3 130 rfl rfl
theorem w_611 : (Jvm.Cond.fieldLink "DriverHost$Reader" (15 : Nat) "DriverHost$Reader" "open" "I") ∈ p_G := inC_3 131 rfl rfl
theorem w_612 : (Jvm.Cond.fieldLink "DriverHost$Reader" (19 : Nat) "DriverHost$Reader" "place" "I") ∈ p_G := inC_3 132 rfl rfl
theorem w_628 : (Jvm.Cond.methodLink "DriverHost" (66 : Nat) ({ cls := "DriverHost$Reader", name := "readText", desc := "()V" } : Jvm.MethodName)) ∈ p_G := inC_3 148 rfl rfl
theorem w_629 : (Jvm.Cond.instanceMethod ({ cls := "DriverHost$Reader", name := "readText", desc := "()V" } : Jvm.MethodName)) ∈ p_G := inC_3 149 rfl rfl
theorem w_630 : (Jvm.Cond.selects "DriverHost$Reader" ({ cls := "DriverHost$Reader", name := "readText", desc := "()V" } : Jvm.MethodName) ({ cls := "DriverHost$Reader", name := "readText", desc := "()V" } : Jvm.MethodName)) ∈ p_G := inC_3 150 rfl rfl
theorem w_631 : (Jvm.Cond.code ({ cls := "DriverHost$Reader", name := "readText", desc := "()V" } : Jvm.MethodName) prog_8_method_2_code (2 : Nat) (Option.none : Option Jvm.ClassFile.FieldType)) ∈ p_G := inC_3 151 rfl rfl
theorem w_632 : (Jvm.Cond.methodLink "DriverHost$Reader" (48 : Nat) ({ cls := "DriverHost$Tokens", name := "scan", desc := "()V" } : Jvm.MethodName)) ∈ p_G := inC_3 152 rfl rfl
theorem w_633 : (Jvm.Cond.instanceMethod ({ cls := "DriverHost$Tokens", name := "scan", desc := "()V" } : Jvm.MethodName)) ∈ p_G := inC_3 153 rfl rfl
theorem w_634 : (Jvm.Cond.selects "DriverHost$Tokens" ({ cls := "DriverHost$Tokens", name := "scan", desc := "()V" } : Jvm.MethodName) ({ cls := "DriverHost$Tokens", name := "scan", desc := "()V" } : Jvm.MethodName)) ∈ p_G := inC_3 154 rfl rfl
theorem w_635 : (Jvm.Cond.code ({ cls := "DriverHost$Tokens", name := "scan", desc := "()V" } : Jvm.MethodName) prog_10_method_2_code (3 : Nat) (Option.none : Option Jvm.ClassFile.FieldType)) ∈ p_G := inC_3 155 rfl rfl
theorem w_636 : (Jvm.Cond.methodLink "DriverHost$Tokens" (59 : Nat) ({ cls := "DriverHost$Tokens", name := "endOf", desc := "(I)I" } : Jvm.MethodName)) ∈ p_G := inC_3 156 rfl rfl
theorem w_638 : (Jvm.Cond.instanceMethod ({ cls := "DriverHost$Tokens", name := "endOf", desc := "(I)I" } : Jvm.MethodName)) ∈ p_G := inC_3 158 rfl rfl
theorem w_639 : (Jvm.Cond.code ({ cls := "DriverHost$Tokens", name := "endOf", desc := "(I)I" } : Jvm.MethodName) prog_10_method_3_code (3 : Nat) (Option.some Jvm.ClassFile.FieldType.int)) ∈ p_G := inC_3 159 rfl rfl
theorem w_640 : (Jvm.Cond.methodLink "DriverHost$Tokens" (67 : Nat) ({ cls := "DriverHost$Tokens", name := "isLetter", desc := "(B)Z" } : Jvm.MethodName)) ∈ p_G := inC_3 160 rfl rfl
theorem w_641 : (Jvm.Cond.static ({ cls := "DriverHost$Tokens", name := "isLetter", desc := "(B)Z" } : Jvm.MethodName)) ∈ p_G := inC_3 161 rfl rfl
theorem w_642 : (Jvm.Cond.code ({ cls := "DriverHost$Tokens", name := "isLetter", desc := "(B)Z" } : Jvm.MethodName) prog_10_method_6_code (1 : Nat) (Option.some Jvm.ClassFile.FieldType.boolean)) ∈ p_G := inC_3 162 rfl rfl
theorem w_643 : (Jvm.Cond.methodLink "DriverHost$Tokens" (71 : Nat) ({ cls := "DriverHost$Tokens", name := "isDigit", desc := "(B)Z" } : Jvm.MethodName)) ∈ p_G := inC_3 163 rfl rfl
theorem w_644 : (Jvm.Cond.static ({ cls := "DriverHost$Tokens", name := "isDigit", desc := "(B)Z" } : Jvm.MethodName)) ∈ p_G := inC_3 164 rfl rfl
theorem w_645 : (Jvm.Cond.code ({ cls := "DriverHost$Tokens", name := "isDigit", desc := "(B)Z" } : Jvm.MethodName) prog_10_method_7_code (1 : Nat) (Option.some Jvm.ClassFile.FieldType.boolean)) ∈ p_G := inC_3 165 rfl rfl
theorem w_646 : (Jvm.Cond.methodLink "DriverHost$Tokens" (63 : Nat) ({ cls := "DriverHost$Tokens", name := "add", desc := "(II)V" } : Jvm.MethodName)) ∈ p_G := inC_3 166 rfl rfl
theorem w_648 : (Jvm.Cond.instanceMethod ({ cls := "DriverHost$Tokens", name := "add", desc := "(II)V" } : Jvm.MethodName)) ∈ p_G := inC_3 168 rfl rfl
theorem w_649 : (Jvm.Cond.code ({ cls := "DriverHost$Tokens", name := "add", desc := "(II)V" } : Jvm.MethodName) prog_10_method_4_code (3 : Nat) (Option.none : Option Jvm.ClassFile.FieldType)) ∈ p_G := inC_3 169 rfl rfl
theorem w_650 : (Jvm.Cond.methodLink "DriverHost$Tokens" (74 : Nat) ({ cls := "DriverHost$Word", name := "find", desc := "([BII)LDriverHost$Word;" } : Jvm.MethodName)) ∈ p_G := inC_3 170 rfl rfl
theorem w_651 : (Jvm.Cond.static ({ cls := "DriverHost$Word", name := "find", desc := "([BII)LDriverHost$Word;" } : Jvm.MethodName)) ∈ p_G := inC_3 171 rfl rfl
theorem w_708 : (Jvm.Cond.methodLink "DriverHost$Tokens" (78 : Nat) ({ cls := "DriverHost$Tokens", name := "numberOf", desc := "(II)I" } : Jvm.MethodName)) ∈ p_G := inC_3 228 rfl rfl
theorem w_710 : (Jvm.Cond.instanceMethod ({ cls := "DriverHost$Tokens", name := "numberOf", desc := "(II)I" } : Jvm.MethodName)) ∈ p_G := inC_3 230 rfl rfl
theorem w_711 : (Jvm.Cond.code ({ cls := "DriverHost$Tokens", name := "numberOf", desc := "(II)I" } : Jvm.MethodName) prog_10_method_5_code (5 : Nat) (Option.some Jvm.ClassFile.FieldType.int)) ∈ p_G := inC_3 231 rfl rfl
theorem w_712 : (Jvm.Cond.constant "DriverHost$Tokens" (81 : Nat) (1000000 : Int32)) ∈ p_G := inC_3 232 rfl rfl
theorem w_713 : (Jvm.Cond.fieldLink "DriverHost$Reader" (51 : Nat) "DriverHost$Word" "DRIVERS" "LDriverHost$Word;") ∈ p_G := inC_3 233 rfl rfl
theorem w_715 : (Jvm.Cond.methodLink "DriverHost$Reader" (57 : Nat) ({ cls := "DriverHost$Reader", name := "takeWord", desc := "(LDriverHost$Word;)V" } : Jvm.MethodName)) ∈ p_G := inC_3 235 rfl rfl
theorem w_717 : (Jvm.Cond.instanceMethod ({ cls := "DriverHost$Reader", name := "takeWord", desc := "(LDriverHost$Word;)V" } : Jvm.MethodName)) ∈ p_G := inC_3 237 rfl rfl
theorem w_718 : (Jvm.Cond.code ({ cls := "DriverHost$Reader", name := "takeWord", desc := "(LDriverHost$Word;)V" } : Jvm.MethodName) prog_8_method_4_code (2 : Nat) (Option.none : Option Jvm.ClassFile.FieldType)) ∈ p_G := inC_3 238 rfl rfl
theorem w_719 : (Jvm.Cond.methodLink "DriverHost$Reader" (82 : Nat) ({ cls := "DriverHost$Tokens", name := "isWord", desc := "(LDriverHost$Word;)Z" } : Jvm.MethodName)) ∈ p_G := inC_3 239 rfl rfl
theorem w_720 : (Jvm.Cond.instanceMethod ({ cls := "DriverHost$Tokens", name := "isWord", desc := "(LDriverHost$Word;)Z" } : Jvm.MethodName)) ∈ p_G := inC_4 0 rfl rfl
theorem w_721 : (Jvm.Cond.selects "DriverHost$Tokens" ({ cls := "DriverHost$Tokens", name := "isWord", desc := "(LDriverHost$Word;)Z" } : Jvm.MethodName) ({ cls := "DriverHost$Tokens", name := "isWord", desc := "(LDriverHost$Word;)Z" } : Jvm.MethodName)) ∈ p_G := inC_4 1 rfl rfl
theorem w_722 : (Jvm.Cond.code ({ cls := "DriverHost$Tokens", name := "isWord", desc := "(LDriverHost$Word;)Z" } : Jvm.MethodName) prog_10_method_14_code (2 : Nat) (Option.some Jvm.ClassFile.FieldType.boolean)) ∈ p_G := inC_4 2 rfl rfl
theorem w_723 : (Jvm.Cond.methodLink "DriverHost$Reader" (95 : Nat) ({ cls := "DriverHost$Tokens", name := "advance", desc := "()V" } : Jvm.MethodName)) ∈ p_G := inC_4 3 rfl rfl
theorem w_724 : (Jvm.Cond.instanceMethod ({ cls := "DriverHost$Tokens", name := "advance", desc := "()V" } : Jvm.MethodName)) ∈ p_G := inC_4 4 rfl rfl
theorem w_725 : (Jvm.Cond.selects "DriverHost$Tokens" ({ cls := "DriverHost$Tokens", name := "advance", desc := "()V" } : Jvm.MethodName) ({ cls := "DriverHost$Tokens", name := "advance", desc := "()V" } : Jvm.MethodName)) ∈ p_G := inC_4 5 rfl rfl
theorem w_726 : (Jvm.Cond.code ({ cls := "DriverHost$Tokens", name := "advance", desc := "()V" } : Jvm.MethodName) prog_10_method_8_code (1 : Nat) (Option.none : Option Jvm.ClassFile.FieldType)) ∈ p_G := inC_4 6 rfl rfl
theorem w_727 : (Jvm.Cond.methodLink "DriverHost$Reader" (92 : Nat) ({ cls := "DriverHost$Tokens", name := "refuse", desc := "(I)V" } : Jvm.MethodName)) ∈ p_G := inC_4 7 rfl rfl
theorem w_728 : (Jvm.Cond.instanceMethod ({ cls := "DriverHost$Tokens", name := "refuse", desc := "(I)V" } : Jvm.MethodName)) ∈ p_G := inC_4 8 rfl rfl
theorem w_729 : (Jvm.Cond.selects "DriverHost$Tokens" ({ cls := "DriverHost$Tokens", name := "refuse", desc := "(I)V" } : Jvm.MethodName) ({ cls := "DriverHost$Tokens", name := "refuse", desc := "(I)V" } : Jvm.MethodName)) ∈ p_G := inC_4 9 rfl rfl
theorem w_730 : (Jvm.Cond.code ({ cls := "DriverHost$Tokens", name := "refuse", desc := "(I)V" } : Jvm.MethodName) prog_10_method_16_code (2 : Nat) (Option.none : Option Jvm.ClassFile.FieldType)) ∈ p_G := inC_4 10 rfl rfl
theorem w_731 : (Jvm.Cond.methodLink "DriverHost$Reader" (61 : Nat) ({ cls := "DriverHost$Reader", name := "takeNumber", desc := "(II)I" } : Jvm.MethodName)) ∈ p_G := inC_4 11 rfl rfl
theorem w_733 : (Jvm.Cond.instanceMethod ({ cls := "DriverHost$Reader", name := "takeNumber", desc := "(II)I" } : Jvm.MethodName)) ∈ p_G := inC_4 13 rfl rfl
theorem w_734 : (Jvm.Cond.code ({ cls := "DriverHost$Reader", name := "takeNumber", desc := "(II)I" } : Jvm.MethodName) prog_8_method_6_code (4 : Nat) (Option.some Jvm.ClassFile.FieldType.int)) ∈ p_G := inC_4 14 rfl rfl
theorem w_735 : (Jvm.Cond.methodLink "DriverHost$Reader" (102 : Nat) ({ cls := "DriverHost$Tokens", name := "number", desc := "()I" } : Jvm.MethodName)) ∈ p_G := inC_4 15 rfl rfl
theorem w_736 : (Jvm.Cond.instanceMethod ({ cls := "DriverHost$Tokens", name := "number", desc := "()I" } : Jvm.MethodName)) ∈ p_G := inC_4 16 rfl rfl
theorem w_737 : (Jvm.Cond.selects "DriverHost$Tokens" ({ cls := "DriverHost$Tokens", name := "number", desc := "()I" } : Jvm.MethodName) ({ cls := "DriverHost$Tokens", name := "number", desc := "()I" } : Jvm.MethodName)) ∈ p_G := inC_4 17 rfl rfl
theorem w_738 : (Jvm.Cond.code ({ cls := "DriverHost$Tokens", name := "number", desc := "()I" } : Jvm.MethodName) prog_10_method_11_code (1 : Nat) (Option.some Jvm.ClassFile.FieldType.int)) ∈ p_G := inC_4 18 rfl rfl
theorem w_739 : (Jvm.Cond.methodLink "DriverHost$Reader" (106 : Nat) ({ cls := "DriverHost$Tokens", name := "isNumber", desc := "()Z" } : Jvm.MethodName)) ∈ p_G := inC_4 19 rfl rfl
theorem w_740 : (Jvm.Cond.instanceMethod ({ cls := "DriverHost$Tokens", name := "isNumber", desc := "()Z" } : Jvm.MethodName)) ∈ p_G := inC_4 20 rfl rfl
theorem w_741 : (Jvm.Cond.selects "DriverHost$Tokens" ({ cls := "DriverHost$Tokens", name := "isNumber", desc := "()Z" } : Jvm.MethodName) ({ cls := "DriverHost$Tokens", name := "isNumber", desc := "()Z" } : Jvm.MethodName)) ∈ p_G := inC_4 21 rfl rfl
theorem w_742 : (Jvm.Cond.code ({ cls := "DriverHost$Tokens", name := "isNumber", desc := "()Z" } : Jvm.MethodName) prog_10_method_12_code (1 : Nat) (Option.some Jvm.ClassFile.FieldType.boolean)) ∈ p_G := inC_4 22 rfl rfl
theorem w_743 : (Jvm.Cond.methodLink "DriverHost$Reader" (68 : Nat) ({ cls := "DriverHost$Reader", name := "takeSign", desc := "(C)V" } : Jvm.MethodName)) ∈ p_G := inC_4 23 rfl rfl
theorem w_745 : (Jvm.Cond.instanceMethod ({ cls := "DriverHost$Reader", name := "takeSign", desc := "(C)V" } : Jvm.MethodName)) ∈ p_G := inC_4 25 rfl rfl
theorem w_746 : (Jvm.Cond.code ({ cls := "DriverHost$Reader", name := "takeSign", desc := "(C)V" } : Jvm.MethodName) prog_8_method_5_code (2 : Nat) (Option.none : Option Jvm.ClassFile.FieldType)) ∈ p_G := inC_4 26 rfl rfl
theorem w_747 : (Jvm.Cond.methodLink "DriverHost$Reader" (98 : Nat) ({ cls := "DriverHost$Tokens", name := "isSign", desc := "(C)Z" } : Jvm.MethodName)) ∈ p_G := inC_4 27 rfl rfl
theorem w_748 : (Jvm.Cond.instanceMethod ({ cls := "DriverHost$Tokens", name := "isSign", desc := "(C)Z" } : Jvm.MethodName)) ∈ p_G := inC_4 28 rfl rfl
theorem w_749 : (Jvm.Cond.selects "DriverHost$Tokens" ({ cls := "DriverHost$Tokens", name := "isSign", desc := "(C)Z" } : Jvm.MethodName) ({ cls := "DriverHost$Tokens", name := "isSign", desc := "(C)Z" } : Jvm.MethodName)) ∈ p_G := inC_4 29 rfl rfl
theorem w_750 : (Jvm.Cond.code ({ cls := "DriverHost$Tokens", name := "isSign", desc := "(C)Z" } : Jvm.MethodName) prog_10_method_13_code (2 : Nat) (Option.some Jvm.ClassFile.FieldType.boolean)) ∈ p_G := inC_4 30 rfl rfl
theorem w_751 : (Jvm.Cond.methodLink "DriverHost$Reader" (72 : Nat) ({ cls := "DriverHost$Tokens", name := "atEnd", desc := "()Z" } : Jvm.MethodName)) ∈ p_G := inC_4 31 rfl rfl
theorem w_752 : (Jvm.Cond.instanceMethod ({ cls := "DriverHost$Tokens", name := "atEnd", desc := "()Z" } : Jvm.MethodName)) ∈ p_G := inC_4 32 rfl rfl
theorem w_753 : (Jvm.Cond.selects "DriverHost$Tokens" ({ cls := "DriverHost$Tokens", name := "atEnd", desc := "()Z" } : Jvm.MethodName) ({ cls := "DriverHost$Tokens", name := "atEnd", desc := "()Z" } : Jvm.MethodName)) ∈ p_G := inC_4 33 rfl rfl
theorem w_754 : (Jvm.Cond.code ({ cls := "DriverHost$Tokens", name := "atEnd", desc := "()Z" } : Jvm.MethodName) prog_10_method_9_code (1 : Nat) (Option.some Jvm.ClassFile.FieldType.boolean)) ∈ p_G := inC_4 34 rfl rfl
theorem w_755 : (Jvm.Cond.methodLink "DriverHost$Reader" (76 : Nat) ({ cls := "DriverHost$Reader", name := "readClause", desc := "()V" } : Jvm.MethodName)) ∈ p_G := inC_4 35 rfl rfl
theorem w_757 : (Jvm.Cond.instanceMethod ({ cls := "DriverHost$Reader", name := "readClause", desc := "()V" } : Jvm.MethodName)) ∈ p_G := inC_4 37 rfl rfl
theorem w_758 : (Jvm.Cond.code ({ cls := "DriverHost$Reader", name := "readClause", desc := "()V" } : Jvm.MethodName) prog_8_method_7_code (2 : Nat) (Option.none : Option Jvm.ClassFile.FieldType)) ∈ p_G := inC_4 38 rfl rfl
theorem w_759 : (Jvm.Cond.methodLink "DriverHost$Reader" (109 : Nat) ({ cls := "DriverHost$Tokens", name := "word", desc := "()LDriverHost$Word;" } : Jvm.MethodName)) ∈ p_G := inC_4 39 rfl rfl
theorem w_760 : (Jvm.Cond.instanceMethod ({ cls := "DriverHost$Tokens", name := "word", desc := "()LDriverHost$Word;" } : Jvm.MethodName)) ∈ p_G := inC_4 40 rfl rfl
theorem w_761 : (Jvm.Cond.selects "DriverHost$Tokens" ({ cls := "DriverHost$Tokens", name := "word", desc := "()LDriverHost$Word;" } : Jvm.MethodName) ({ cls := "DriverHost$Tokens", name := "word", desc := "()LDriverHost$Word;" } : Jvm.MethodName)) ∈ p_G := inC_4 41 rfl rfl
theorem w_762 : (Jvm.Cond.code ({ cls := "DriverHost$Tokens", name := "word", desc := "()LDriverHost$Word;" } : Jvm.MethodName) prog_10_method_10_code (1 : Nat) (Option.some (Jvm.ClassFile.FieldType.object "DriverHost$Word"))) ∈ p_G := inC_4 42 rfl rfl
theorem w_763 : (Jvm.Cond.fieldLink "DriverHost$Reader" (113 : Nat) "DriverHost$Word" "COMMAND" "LDriverHost$Word;") ∈ p_G := inC_4 43 rfl rfl
theorem w_765 : (Jvm.Cond.methodLink "DriverHost$Reader" (116 : Nat) ({ cls := "DriverHost$Reader", name := "readCommand", desc := "()V" } : Jvm.MethodName)) ∈ p_G := inC_4 45 rfl rfl
theorem w_767 : (Jvm.Cond.instanceMethod ({ cls := "DriverHost$Reader", name := "readCommand", desc := "()V" } : Jvm.MethodName)) ∈ p_G := inC_4 47 rfl rfl
theorem w_768 : (Jvm.Cond.code ({ cls := "DriverHost$Reader", name := "readCommand", desc := "()V" } : Jvm.MethodName) prog_8_method_8_code (2 : Nat) (Option.none : Option Jvm.ClassFile.FieldType)) ∈ p_G := inC_4 48 rfl rfl
theorem w_769 : (Jvm.Cond.classLink "DriverHost$Reader" (161 : Nat) "DriverHost$Command") ∈ p_G := inC_4 49 rfl rfl
theorem w_770 : (Jvm.Cond.instantiable "DriverHost$Command" (8 : Nat)) ∈ p_G := inC_4 50 rfl rfl
theorem w_772 : (Jvm.Cond.instanceMethod ({ cls := "DriverHost$Command", name := "<init>", desc := "()V" } : Jvm.MethodName)) ∈ p_G := inC_4 52 rfl rfl
theorem w_773 : (Jvm.Cond.code ({ cls := "DriverHost$Command", name := "<init>", desc := "()V" } : Jvm.MethodName) prog_3_method_1_code (1 : Nat) (Option.none : Option Jvm.ClassFile.FieldType)) ∈ p_G := inC_4 53 rfl rfl
theorem w_774 : (Jvm.Cond.methodLink "DriverHost$Command" (3 : Nat) ({ cls := "java/lang/Object", name := "<init>", desc := "()V" } : Jvm.MethodName)) ∈ p_G := inC_4 54 rfl rfl
theorem w_775 : (Jvm.Cond.fieldLink "DriverHost$Command" (9 : Nat) "DriverHost$Command" "nameToken" "I") ∈ p_G := inC_4 55 rfl rfl
theorem w_776 : (Jvm.Cond.fieldLink "DriverHost$Reader" (226 : Nat) "DriverHost$Command" "nameToken" "I") ∈ p_G := inC_4 56 rfl rfl
theorem w_777 : (Jvm.Cond.fieldLink "DriverHost$Command" (15 : Nat) "DriverHost$Command" "kind" "I") ∈ p_G := inC_4 57 rfl rfl
theorem w_778 : (Jvm.Cond.fieldLink "DriverHost$Reader" (179 : Nat) "DriverHost$Command" "kind" "I") ∈ p_G := inC_4 58 rfl rfl
theorem w_779 : (Jvm.Cond.fieldLink "DriverHost" (103 : Nat) "DriverHost$Command" "kind" "I") ∈ p_G := inC_4 59 rfl rfl
theorem w_780 : (Jvm.Cond.fieldLink "DriverHost$World" (174 : Nat) "DriverHost$Command" "kind" "I") ∈ p_G := inC_4 60 rfl rfl
theorem w_781 : (Jvm.Cond.fieldLink "DriverHost$Command" (18 : Nat) "DriverHost$Command" "time" "I") ∈ p_G := inC_4 61 rfl rfl
theorem w_782 : (Jvm.Cond.fieldLink "DriverHost$Reader" (185 : Nat) "DriverHost$Command" "time" "I") ∈ p_G := inC_4 62 rfl rfl
theorem w_783 : (Jvm.Cond.fieldLink "DriverHost" (108 : Nat) "DriverHost$Command" "time" "I") ∈ p_G := inC_4 63 rfl rfl
theorem w_784 : (Jvm.Cond.fieldLink "DriverHost$World" (232 : Nat) "DriverHost$Command" "time" "I") ∈ p_G := inC_4 64 rfl rfl
theorem w_785 : (Jvm.Cond.fieldLink "DriverHost$Command" (21 : Nat) "DriverHost$Command" "testFrom" "I") ∈ p_G := inC_4 65 rfl rfl
theorem w_786 : (Jvm.Cond.fieldLink "DriverHost$Reader" (176 : Nat) "DriverHost$Command" "testFrom" "I") ∈ p_G := inC_4 66 rfl rfl
theorem w_787 : (Jvm.Cond.fieldLink "DriverHost$World" (197 : Nat) "DriverHost$Command" "testFrom" "I") ∈ p_G := inC_4 67 rfl rfl
theorem w_788 : (Jvm.Cond.fieldLink "DriverHost$Command" (24 : Nat) "DriverHost$Command" "resultFrom" "I") ∈ p_G := inC_4 68 rfl rfl
theorem w_789 : (Jvm.Cond.fieldLink "DriverHost$Reader" (188 : Nat) "DriverHost$Command" "resultFrom" "I") ∈ p_G := inC_4 69 rfl rfl
theorem w_790 : (Jvm.Cond.fieldLink "DriverHost$World" (200 : Nat) "DriverHost$Command" "resultFrom" "I") ∈ p_G := inC_4 70 rfl rfl
theorem w_791 : (Jvm.Cond.fieldLink "DriverHost$Command" (27 : Nat) "DriverHost$Command" "setFrom" "I") ∈ p_G := inC_4 71 rfl rfl
theorem w_792 : (Jvm.Cond.fieldLink "DriverHost$Reader" (197 : Nat) "DriverHost$Command" "setFrom" "I") ∈ p_G := inC_4 72 rfl rfl
theorem w_793 : (Jvm.Cond.fieldLink "DriverHost$World" (254 : Nat) "DriverHost$Command" "setFrom" "I") ∈ p_G := inC_4 73 rfl rfl
theorem w_794 : (Jvm.Cond.fieldLink "DriverHost$Command" (30 : Nat) "DriverHost$Command" "keepFrom" "I") ∈ p_G := inC_4 74 rfl rfl
theorem w_795 : (Jvm.Cond.fieldLink "DriverHost$Reader" (207 : Nat) "DriverHost$Command" "keepFrom" "I") ∈ p_G := inC_4 75 rfl rfl
theorem w_796 : (Jvm.Cond.fieldLink "DriverHost$World" (257 : Nat) "DriverHost$Command" "keepFrom" "I") ∈ p_G := inC_4 76 rfl rfl
theorem w_797 : (Jvm.Cond.fieldLink "DriverHost$Command" (33 : Nat) "DriverHost$Command" "end" "I") ∈ p_G := inC_4 77 rfl rfl
theorem w_798 : (Jvm.Cond.fieldLink "DriverHost$Reader" (213 : Nat) "DriverHost$Command" "end" "I") ∈ p_G := inC_4 78 rfl rfl
theorem w_799 : (Jvm.Cond.fieldLink "DriverHost$World" (266 : Nat) "DriverHost$Command" "end" "I") ∈ p_G := inC_4 79 rfl rfl
theorem w_817 : (Jvm.Cond.methodLink "DriverHost$Reader" (164 : Nat) ({ cls := "DriverHost$Reader", name := "readName", desc := "(LDriverHost$Command;)V" } : Jvm.MethodName)) ∈ p_G := inC_4 97 rfl rfl
theorem w_819 : (Jvm.Cond.instanceMethod ({ cls := "DriverHost$Reader", name := "readName", desc := "(LDriverHost$Command;)V" } : Jvm.MethodName)) ∈ p_G := inC_4 99 rfl rfl
theorem w_820 : (Jvm.Cond.code ({ cls := "DriverHost$Reader", name := "readName", desc := "(LDriverHost$Command;)V" } : Jvm.MethodName) prog_8_method_9_code (3 : Nat) (Option.none : Option Jvm.ClassFile.FieldType)) ∈ p_G := inC_4 100 rfl rfl
theorem w_821 : (Jvm.Cond.methodLink "DriverHost$Reader" (219 : Nat) ({ cls := "DriverHost$Tokens", name := "isName", desc := "()Z" } : Jvm.MethodName)) ∈ p_G := inC_4 101 rfl rfl
theorem w_822 : (Jvm.Cond.instanceMethod ({ cls := "DriverHost$Tokens", name := "isName", desc := "()Z" } : Jvm.MethodName)) ∈ p_G := inC_4 102 rfl rfl
theorem w_823 : (Jvm.Cond.selects "DriverHost$Tokens" ({ cls := "DriverHost$Tokens", name := "isName", desc := "()Z" } : Jvm.MethodName) ({ cls := "DriverHost$Tokens", name := "isName", desc := "()Z" } : Jvm.MethodName)) ∈ p_G := inC_4 103 rfl rfl
theorem w_824 : (Jvm.Cond.code ({ cls := "DriverHost$Tokens", name := "isName", desc := "()Z" } : Jvm.MethodName) prog_10_method_15_code (1 : Nat) (Option.some Jvm.ClassFile.FieldType.boolean)) ∈ p_G := inC_4 104 rfl rfl
theorem w_825 : (Jvm.Cond.methodLink "DriverHost$Reader" (222 : Nat) ({ cls := "DriverHost$Program", name := "commandAt", desc := "(I)LDriverHost$Command;" } : Jvm.MethodName)) ∈ p_G := inC_4 105 rfl rfl
theorem w_826 : (Jvm.Cond.instanceMethod ({ cls := "DriverHost$Program", name := "commandAt", desc := "(I)LDriverHost$Command;" } : Jvm.MethodName)) ∈ p_G := inC_4 106 rfl rfl
theorem w_827 : (Jvm.Cond.selects "DriverHost$Program" ({ cls := "DriverHost$Program", name := "commandAt", desc := "(I)LDriverHost$Command;" } : Jvm.MethodName) ({ cls := "DriverHost$Program", name := "commandAt", desc := "(I)LDriverHost$Command;" } : Jvm.MethodName)) ∈ p_G := inC_4 107 rfl rfl
theorem w_828 : (Jvm.Cond.code ({ cls := "DriverHost$Program", name := "commandAt", desc := "(I)LDriverHost$Command;" } : Jvm.MethodName) prog_7_method_2_code (3 : Nat) (Option.some (Jvm.ClassFile.FieldType.object "DriverHost$Command"))) ∈ p_G := inC_4 108 rfl rfl
theorem w_829 : (Jvm.Cond.classLink "DriverHost$Program" (54 : Nat) "java/util/NoSuchElementException") ∈ p_G := inC_4 109 rfl rfl
theorem w_845 : (Jvm.Cond.methodLink "DriverHost$Reader" (232 : Nat) ({ cls := "DriverHost$Tokens", name := "areSame", desc := "(II)Z" } : Jvm.MethodName)) ∈ p_G := inC_4 125 rfl rfl
theorem w_846 : (Jvm.Cond.instanceMethod ({ cls := "DriverHost$Tokens", name := "areSame", desc := "(II)Z" } : Jvm.MethodName)) ∈ p_G := inC_4 126 rfl rfl
theorem w_847 : (Jvm.Cond.selects "DriverHost$Tokens" ({ cls := "DriverHost$Tokens", name := "areSame", desc := "(II)Z" } : Jvm.MethodName) ({ cls := "DriverHost$Tokens", name := "areSame", desc := "(II)Z" } : Jvm.MethodName)) ∈ p_G := inC_4 127 rfl rfl
theorem w_848 : (Jvm.Cond.code ({ cls := "DriverHost$Tokens", name := "areSame", desc := "(II)Z" } : Jvm.MethodName) prog_10_method_17_code (4 : Nat) (Option.some Jvm.ClassFile.FieldType.boolean)) ∈ p_G := inC_4 128 rfl rfl
theorem w_849 : (Jvm.Cond.methodLink "DriverHost$Reader" (168 : Nat) ({ cls := "DriverHost$Reader", name := "readClass", desc := "(LDriverHost$Command;)V" } : Jvm.MethodName)) ∈ p_G := inC_4 129 rfl rfl
theorem w_851 : (Jvm.Cond.instanceMethod ({ cls := "DriverHost$Reader", name := "readClass", desc := "(LDriverHost$Command;)V" } : Jvm.MethodName)) ∈ p_G := inC_4 131 rfl rfl
theorem w_852 : (Jvm.Cond.code ({ cls := "DriverHost$Reader", name := "readClass", desc := "(LDriverHost$Command;)V" } : Jvm.MethodName) prog_8_method_10_code (3 : Nat) (Option.none : Option Jvm.ClassFile.FieldType)) ∈ p_G := inC_4 132 rfl rfl
theorem w_853 : (Jvm.Cond.methodLink "DriverHost$Reader" (89 : Nat) ({ cls := "DriverHost$Reader", name := "readTest", desc := "()V" } : Jvm.MethodName)) ∈ p_G := inC_4 133 rfl rfl
theorem w_855 : (Jvm.Cond.instanceMethod ({ cls := "DriverHost$Reader", name := "readTest", desc := "()V" } : Jvm.MethodName)) ∈ p_G := inC_4 135 rfl rfl
theorem w_856 : (Jvm.Cond.code ({ cls := "DriverHost$Reader", name := "readTest", desc := "()V" } : Jvm.MethodName) prog_8_method_12_code (2 : Nat) (Option.none : Option Jvm.ClassFile.FieldType)) ∈ p_G := inC_4 136 rfl rfl
theorem w_857 : (Jvm.Cond.methodLink "DriverHost$Reader" (243 : Nat) ({ cls := "DriverHost$Reader", name := "readConjunction", desc := "()V" } : Jvm.MethodName)) ∈ p_G := inC_4 137 rfl rfl
theorem w_859 : (Jvm.Cond.instanceMethod ({ cls := "DriverHost$Reader", name := "readConjunction", desc := "()V" } : Jvm.MethodName)) ∈ p_G := inC_4 139 rfl rfl
theorem w_860 : (Jvm.Cond.code ({ cls := "DriverHost$Reader", name := "readConjunction", desc := "()V" } : Jvm.MethodName) prog_8_method_13_code (2 : Nat) (Option.none : Option Jvm.ClassFile.FieldType)) ∈ p_G := inC_4 140 rfl rfl
theorem w_861 : (Jvm.Cond.methodLink "DriverHost$Reader" (249 : Nat) ({ cls := "DriverHost$Reader", name := "readFactor", desc := "()V" } : Jvm.MethodName)) ∈ p_G := inC_4 141 rfl rfl
theorem w_863 : (Jvm.Cond.instanceMethod ({ cls := "DriverHost$Reader", name := "readFactor", desc := "()V" } : Jvm.MethodName)) ∈ p_G := inC_4 143 rfl rfl
theorem w_864 : (Jvm.Cond.code ({ cls := "DriverHost$Reader", name := "readFactor", desc := "()V" } : Jvm.MethodName) prog_8_method_14_code (2 : Nat) (Option.none : Option Jvm.ClassFile.FieldType)) ∈ p_G := inC_4 144 rfl rfl
theorem w_865 : (Jvm.Cond.fieldLink "DriverHost$Reader" (255 : Nat) "DriverHost$Word" "NOT" "LDriverHost$Word;") ∈ p_G := inC_4 145 rfl rfl
theorem w_867 : (Jvm.Cond.methodLink "DriverHost$Reader" (258 : Nat) ({ cls := "DriverHost$Reader", name := "opens", desc := "()Z" } : Jvm.MethodName)) ∈ p_G := inC_4 147 rfl rfl
theorem w_869 : (Jvm.Cond.instanceMethod ({ cls := "DriverHost$Reader", name := "opens", desc := "()Z" } : Jvm.MethodName)) ∈ p_G := inC_4 149 rfl rfl
theorem w_870 : (Jvm.Cond.code ({ cls := "DriverHost$Reader", name := "opens", desc := "()Z" } : Jvm.MethodName) prog_8_method_15_code (1 : Nat) (Option.some Jvm.ClassFile.FieldType.boolean)) ∈ p_G := inC_4 150 rfl rfl
theorem w_871 : (Jvm.Cond.methodLink "DriverHost$Reader" (239 : Nat) ({ cls := "DriverHost$Code", name := "add", desc := "(II)V" } : Jvm.MethodName)) ∈ p_G := inC_4 151 rfl rfl
theorem w_872 : (Jvm.Cond.instanceMethod ({ cls := "DriverHost$Code", name := "add", desc := "(II)V" } : Jvm.MethodName)) ∈ p_G := inC_4 152 rfl rfl
theorem w_873 : (Jvm.Cond.selects "DriverHost$Code" ({ cls := "DriverHost$Code", name := "add", desc := "(II)V" } : Jvm.MethodName) ({ cls := "DriverHost$Code", name := "add", desc := "(II)V" } : Jvm.MethodName)) ∈ p_G := inC_4 153 rfl rfl
theorem w_874 : (Jvm.Cond.code ({ cls := "DriverHost$Code", name := "add", desc := "(II)V" } : Jvm.MethodName) prog_2_method_2_code (3 : Nat) (Option.none : Option Jvm.ClassFile.FieldType)) ∈ p_G := inC_4 154 rfl rfl
theorem w_875 : (Jvm.Cond.methodLink "DriverHost$Reader" (261 : Nat) ({ cls := "DriverHost$Reader", name := "readProperty", desc := "()V" } : Jvm.MethodName)) ∈ p_G := inC_4 155 rfl rfl
theorem w_877 : (Jvm.Cond.instanceMethod ({ cls := "DriverHost$Reader", name := "readProperty", desc := "()V" } : Jvm.MethodName)) ∈ p_G := inC_4 157 rfl rfl
theorem w_878 : (Jvm.Cond.code ({ cls := "DriverHost$Reader", name := "readProperty", desc := "()V" } : Jvm.MethodName) prog_8_method_17_code (2 : Nat) (Option.none : Option Jvm.ClassFile.FieldType)) ∈ p_G := inC_4 158 rfl rfl
theorem w_879 : (Jvm.Cond.constant "DriverHost$Reader" (267 : Nat) (99999 : Int32)) ∈ p_G := inC_4 159 rfl rfl
theorem w_880 : (Jvm.Cond.methodLink "DriverHost$Reader" (264 : Nat) ({ cls := "DriverHost$Reader", name := "takeComparison", desc := "()I" } : Jvm.MethodName)) ∈ p_G := inC_4 160 rfl rfl
theorem w_882 : (Jvm.Cond.instanceMethod ({ cls := "DriverHost$Reader", name := "takeComparison", desc := "()I" } : Jvm.MethodName)) ∈ p_G := inC_4 162 rfl rfl
theorem w_883 : (Jvm.Cond.code ({ cls := "DriverHost$Reader", name := "takeComparison", desc := "()I" } : Jvm.MethodName) prog_8_method_16_code (2 : Nat) (Option.some Jvm.ClassFile.FieldType.int)) ∈ p_G := inC_4 163 rfl rfl
theorem w_884 : (Jvm.Cond.methodLink "DriverHost$Reader" (194 : Nat) ({ cls := "DriverHost$Reader", name := "readSum", desc := "()V" } : Jvm.MethodName)) ∈ p_G := inC_4 164 rfl rfl
theorem w_886 : (Jvm.Cond.instanceMethod ({ cls := "DriverHost$Reader", name := "readSum", desc := "()V" } : Jvm.MethodName)) ∈ p_G := inC_4 166 rfl rfl
theorem w_887 : (Jvm.Cond.code ({ cls := "DriverHost$Reader", name := "readSum", desc := "()V" } : Jvm.MethodName) prog_8_method_18_code (3 : Nat) (Option.none : Option Jvm.ClassFile.FieldType)) ∈ p_G := inC_4 167 rfl rfl
theorem w_888 : (Jvm.Cond.methodLink "DriverHost$Reader" (271 : Nat) ({ cls := "DriverHost$Reader", name := "readProduct", desc := "()V" } : Jvm.MethodName)) ∈ p_G := inC_4 168 rfl rfl
theorem w_890 : (Jvm.Cond.instanceMethod ({ cls := "DriverHost$Reader", name := "readProduct", desc := "()V" } : Jvm.MethodName)) ∈ p_G := inC_4 170 rfl rfl
theorem w_891 : (Jvm.Cond.code ({ cls := "DriverHost$Reader", name := "readProduct", desc := "()V" } : Jvm.MethodName) prog_8_method_19_code (2 : Nat) (Option.none : Option Jvm.ClassFile.FieldType)) ∈ p_G := inC_4 171 rfl rfl
theorem w_892 : (Jvm.Cond.methodLink "DriverHost$Reader" (274 : Nat) ({ cls := "DriverHost$Reader", name := "readOperand", desc := "()V" } : Jvm.MethodName)) ∈ p_G := inC_4 172 rfl rfl
theorem w_894 : (Jvm.Cond.instanceMethod ({ cls := "DriverHost$Reader", name := "readOperand", desc := "()V" } : Jvm.MethodName)) ∈ p_G := inC_4 174 rfl rfl
theorem w_895 : (Jvm.Cond.code ({ cls := "DriverHost$Reader", name := "readOperand", desc := "()V" } : Jvm.MethodName) prog_8_method_20_code (1 : Nat) (Option.none : Option Jvm.ClassFile.FieldType)) ∈ p_G := inC_4 175 rfl rfl
theorem w_896 : (Jvm.Cond.constant "DriverHost$Reader" (277 : Nat) (65535 : Int32)) ∈ p_G := inC_4 176 rfl rfl
theorem w_897 : (Jvm.Cond.fieldLink "DriverHost$Reader" (278 : Nat) "DriverHost$Word" "REG" "LDriverHost$Word;") ∈ p_G := inC_4 177 rfl rfl
theorem w_899 : (Jvm.Cond.fieldLink "DriverHost$Reader" (281 : Nat) "DriverHost$Word" "VAR" "LDriverHost$Word;") ∈ p_G := inC_4 179 rfl rfl
theorem w_901 : (Jvm.Cond.fieldLink "DriverHost$Reader" (284 : Nat) "DriverHost$Word" "ARG" "LDriverHost$Word;") ∈ p_G := inC_4 181 rfl rfl
theorem w_903 : (Jvm.Cond.fieldLink "DriverHost$Reader" (287 : Nat) "DriverHost$Word" "RES" "LDriverHost$Word;") ∈ p_G := inC_4 183 rfl rfl
theorem w_905 : (Jvm.Cond.fieldLink "DriverHost$Reader" (252 : Nat) "DriverHost$Word" "AND" "LDriverHost$Word;") ∈ p_G := inC_4 185 rfl rfl
theorem w_907 : (Jvm.Cond.fieldLink "DriverHost$Reader" (246 : Nat) "DriverHost$Word" "OR" "LDriverHost$Word;") ∈ p_G := inC_4 187 rfl rfl
theorem w_909 : (Jvm.Cond.fieldLink "DriverHost$Reader" (182 : Nat) "DriverHost$Word" "TIME" "LDriverHost$Word;") ∈ p_G := inC_4 189 rfl rfl
theorem w_911 : (Jvm.Cond.fieldLink "DriverHost$Reader" (191 : Nat) "DriverHost$Word" "RESULT" "LDriverHost$Word;") ∈ p_G := inC_4 191 rfl rfl
theorem w_913 : (Jvm.Cond.fieldLink "DriverHost$Reader" (200 : Nat) "DriverHost$Word" "SET" "LDriverHost$Word;") ∈ p_G := inC_4 193 rfl rfl
theorem w_915 : (Jvm.Cond.methodLink "DriverHost$Reader" (203 : Nat) ({ cls := "DriverHost$Reader", name := "readStores", desc := "(LDriverHost$Word;II)V" } : Jvm.MethodName)) ∈ p_G := inC_4 195 rfl rfl
theorem w_917 : (Jvm.Cond.instanceMethod ({ cls := "DriverHost$Reader", name := "readStores", desc := "(LDriverHost$Word;II)V" } : Jvm.MethodName)) ∈ p_G := inC_4 197 rfl rfl
theorem w_918 : (Jvm.Cond.code ({ cls := "DriverHost$Reader", name := "readStores", desc := "(LDriverHost$Word;II)V" } : Jvm.MethodName) prog_8_method_11_code (6 : Nat) (Option.none : Option Jvm.ClassFile.FieldType)) ∈ p_G := inC_4 198 rfl rfl
theorem w_919 : (Jvm.Cond.fieldLink "DriverHost$Reader" (210 : Nat) "DriverHost$Word" "KEEP" "LDriverHost$Word;") ∈ p_G := inC_4 199 rfl rfl
theorem w_921 : (Jvm.Cond.methodLink "DriverHost$Reader" (216 : Nat) ({ cls := "DriverHost$Program", name := "addCommand", desc := "(LDriverHost$Command;)V" } : Jvm.MethodName)) ∈ p_G := inC_4 201 rfl rfl
theorem w_922 : (Jvm.Cond.instanceMethod ({ cls := "DriverHost$Program", name := "addCommand", desc := "(LDriverHost$Command;)V" } : Jvm.MethodName)) ∈ p_G := inC_4 202 rfl rfl
theorem w_923 : (Jvm.Cond.selects "DriverHost$Program" ({ cls := "DriverHost$Program", name := "addCommand", desc := "(LDriverHost$Command;)V" } : Jvm.MethodName) ({ cls := "DriverHost$Program", name := "addCommand", desc := "(LDriverHost$Command;)V" } : Jvm.MethodName)) ∈ p_G := inC_4 203 rfl rfl
theorem w_924 : (Jvm.Cond.code ({ cls := "DriverHost$Program", name := "addCommand", desc := "(LDriverHost$Command;)V" } : Jvm.MethodName) prog_7_method_3_code (2 : Nat) (Option.none : Option Jvm.ClassFile.FieldType)) ∈ p_G := inC_4 204 rfl rfl
theorem w_925 : (Jvm.Cond.fieldLink "DriverHost$Reader" (122 : Nat) "DriverHost$Word" "DELAY" "LDriverHost$Word;") ∈ p_G := inC_4 205 rfl rfl
theorem w_927 : (Jvm.Cond.fieldLink "DriverHost$Reader" (131 : Nat) "DriverHost$Word" "CALM" "LDriverHost$Word;") ∈ p_G := inC_4 207 rfl rfl
theorem w_929 : (Jvm.Cond.fieldLink "DriverHost$Reader" (137 : Nat) "DriverHost$Word" "STREAK" "LDriverHost$Word;") ∈ p_G := inC_4 209 rfl rfl
theorem w_931 : (Jvm.Cond.fieldLink "DriverHost$Reader" (143 : Nat) "DriverHost$Word" "POISON" "LDriverHost$Word;") ∈ p_G := inC_4 211 rfl rfl
theorem w_933 : (Jvm.Cond.fieldLink "DriverHost$Reader" (149 : Nat) "DriverHost$Word" "EVERY" "LDriverHost$Word;") ∈ p_G := inC_4 213 rfl rfl
theorem w_935 : (Jvm.Cond.methodLink "DriverHostLaw" (144 : Nat) ({ cls := "DriverHostLaw", name := "classOf", desc := "(LDriverHost;I[J)I" } : Jvm.MethodName)) ∈ p_G := inC_4 215 rfl rfl
theorem w_936 : (Jvm.Cond.static ({ cls := "DriverHostLaw", name := "classOf", desc := "(LDriverHost;I[J)I" } : Jvm.MethodName)) ∈ p_G := inC_4 216 rfl rfl
theorem w_937 : (Jvm.Cond.codeWith ({ cls := "DriverHostLaw", name := "classOf", desc := "(LDriverHost;I[J)I" } : Jvm.MethodName) method_4_code (4 : Nat) (Option.some Jvm.ClassFile.FieldType.int) [((0 : Nat), (9 : Nat), (12 : Nat), (18 : Nat))]) ∈ p_G := inC_4 217 rfl rfl
theorem w_938 : (Jvm.Cond.classLink "DriverHostLaw" (18 : Nat) "java/util/NoSuchElementException") ∈ p_G := inC_4 218 rfl rfl
theorem w_939 : (Jvm.Cond.methodLink "DriverHostLaw" (15 : Nat) ({ cls := "DriverHost", name := "classOf", desc := "(I)I" } : Jvm.MethodName)) ∈ p_G := inC_4 219 rfl rfl
theorem w_940 : (Jvm.Cond.instanceMethod ({ cls := "DriverHost", name := "classOf", desc := "(I)I" } : Jvm.MethodName)) ∈ p_G := inC_4 220 rfl rfl
theorem w_941 : (Jvm.Cond.selects "DriverHost" ({ cls := "DriverHost", name := "classOf", desc := "(I)I" } : Jvm.MethodName) ({ cls := "DriverHost", name := "classOf", desc := "(I)I" } : Jvm.MethodName)) ∈ p_G := inC_4 221 rfl rfl
theorem w_942 : (Jvm.Cond.code ({ cls := "DriverHost", name := "classOf", desc := "(I)I" } : Jvm.MethodName) prog_1_method_10_code (2 : Nat) (Option.some Jvm.ClassFile.FieldType.int)) ∈ p_G := inC_4 222 rfl rfl
theorem w_943 : (Jvm.Cond.methodLink "DriverHost" (99 : Nat) ({ cls := "DriverHost$Program", name := "commandAt", desc := "(I)LDriverHost$Command;" } : Jvm.MethodName)) ∈ p_G := inC_4 223 rfl rfl
theorem w_944 : (Jvm.Cond.methodLink "DriverHostLaw" (147 : Nat) ({ cls := "DriverHostLaw", name := "timeOf", desc := "(LDriverHost;I[J)I" } : Jvm.MethodName)) ∈ p_G := inC_4 224 rfl rfl
theorem w_945 : (Jvm.Cond.static ({ cls := "DriverHostLaw", name := "timeOf", desc := "(LDriverHost;I[J)I" } : Jvm.MethodName)) ∈ p_G := inC_4 225 rfl rfl
theorem w_946 : (Jvm.Cond.codeWith ({ cls := "DriverHostLaw", name := "timeOf", desc := "(LDriverHost;I[J)I" } : Jvm.MethodName) method_5_code (4 : Nat) (Option.some Jvm.ClassFile.FieldType.int) [((0 : Nat), (9 : Nat), (12 : Nat), (18 : Nat))]) ∈ p_G := inC_4 226 rfl rfl
theorem w_947 : (Jvm.Cond.methodLink "DriverHostLaw" (20 : Nat) ({ cls := "DriverHost", name := "timeOf", desc := "(I)I" } : Jvm.MethodName)) ∈ p_G := inC_4 227 rfl rfl
theorem w_948 : (Jvm.Cond.instanceMethod ({ cls := "DriverHost", name := "timeOf", desc := "(I)I" } : Jvm.MethodName)) ∈ p_G := inC_4 228 rfl rfl
theorem w_949 : (Jvm.Cond.selects "DriverHost" ({ cls := "DriverHost", name := "timeOf", desc := "(I)I" } : Jvm.MethodName) ({ cls := "DriverHost", name := "timeOf", desc := "(I)I" } : Jvm.MethodName)) ∈ p_G := inC_4 229 rfl rfl
theorem w_950 : (Jvm.Cond.code ({ cls := "DriverHost", name := "timeOf", desc := "(I)I" } : Jvm.MethodName) prog_1_method_11_code (2 : Nat) (Option.some Jvm.ClassFile.FieldType.int)) ∈ p_G := inC_4 230 rfl rfl
theorem w_951 : (Jvm.Cond.methodLink "DriverHostLaw" (150 : Nat) ({ cls := "DriverHostLaw", name := "submit", desc := "(LDriverHost;IIIII[J)I" } : Jvm.MethodName)) ∈ p_G := inC_4 231 rfl rfl
theorem w_952 : (Jvm.Cond.static ({ cls := "DriverHostLaw", name := "submit", desc := "(LDriverHost;IIIII[J)I" } : Jvm.MethodName)) ∈ p_G := inC_4 232 rfl rfl
theorem w_953 : (Jvm.Cond.codeWith ({ cls := "DriverHostLaw", name := "submit", desc := "(LDriverHost;IIIII[J)I" } : Jvm.MethodName) method_6_code (8 : Nat) (Option.some Jvm.ClassFile.FieldType.int) [((0 : Nat), (16 : Nat), (19 : Nat), (18 : Nat)), ((0 : Nat), (16 : Nat), (23 : Nat), (13 : Nat))]) ∈ p_G := inC_4 233 rfl rfl
theorem w_954 : (Jvm.Cond.methodLink "DriverHostLaw" (23 : Nat) ({ cls := "DriverHost", name := "submit", desc := "(IIIII)I" } : Jvm.MethodName)) ∈ p_G := inC_4 234 rfl rfl
theorem w_955 : (Jvm.Cond.instanceMethod ({ cls := "DriverHost", name := "submit", desc := "(IIIII)I" } : Jvm.MethodName)) ∈ p_G := inC_4 235 rfl rfl
theorem w_956 : (Jvm.Cond.selects "DriverHost" ({ cls := "DriverHost", name := "submit", desc := "(IIIII)I" } : Jvm.MethodName) ({ cls := "DriverHost", name := "submit", desc := "(IIIII)I" } : Jvm.MethodName)) ∈ p_G := inC_4 236 rfl rfl
theorem w_957 : (Jvm.Cond.code ({ cls := "DriverHost", name := "submit", desc := "(IIIII)I" } : Jvm.MethodName) prog_1_method_12_code (8 : Nat) (Option.some Jvm.ClassFile.FieldType.int)) ∈ p_G := inC_4 237 rfl rfl
theorem w_958 : (Jvm.Cond.methodLink "DriverHost" (111 : Nat) ({ cls := "DriverHost$World", name := "driverAt", desc := "(I)LDriverHost$Driver;" } : Jvm.MethodName)) ∈ p_G := inC_4 238 rfl rfl
theorem w_959 : (Jvm.Cond.instanceMethod ({ cls := "DriverHost$World", name := "driverAt", desc := "(I)LDriverHost$Driver;" } : Jvm.MethodName)) ∈ p_G := inC_4 239 rfl rfl
theorem w_960 : (Jvm.Cond.selects "DriverHost$World" ({ cls := "DriverHost$World", name := "driverAt", desc := "(I)LDriverHost$Driver;" } : Jvm.MethodName) ({ cls := "DriverHost$World", name := "driverAt", desc := "(I)LDriverHost$Driver;" } : Jvm.MethodName)) ∈ p_G := inC_5 0 rfl rfl
theorem w_961 : (Jvm.Cond.code ({ cls := "DriverHost$World", name := "driverAt", desc := "(I)LDriverHost$Driver;" } : Jvm.MethodName) prog_12_method_3_code (2 : Nat) (Option.some (Jvm.ClassFile.FieldType.object "DriverHost$Driver"))) ∈ p_G := inC_5 1 rfl rfl
theorem w_962 : (Jvm.Cond.classLink "DriverHost$World" (64 : Nat) "java/util/NoSuchElementException") ∈ p_G := inC_5 2 rfl rfl
theorem w_965 : (Jvm.Cond.methodLink "DriverHost" (115 : Nat) ({ cls := "DriverHost", name := "isWithin", desc := "(III)Z" } : Jvm.MethodName)) ∈ p_G := inC_5 5 rfl rfl
theorem w_966 : (Jvm.Cond.static ({ cls := "DriverHost", name := "isWithin", desc := "(III)Z" } : Jvm.MethodName)) ∈ p_G := inC_5 6 rfl rfl
theorem w_967 : (Jvm.Cond.code ({ cls := "DriverHost", name := "isWithin", desc := "(III)Z" } : Jvm.MethodName) prog_1_method_48_code (3 : Nat) (Option.some Jvm.ClassFile.FieldType.boolean)) ∈ p_G := inC_5 7 rfl rfl
theorem w_968 : (Jvm.Cond.constant "DriverHost" (119 : Nat) (100000 : Int32)) ∈ p_G := inC_5 8 rfl rfl
theorem w_970 : (Jvm.Cond.methodLink "DriverHost" (127 : Nat) ({ cls := "DriverHost$History", name := "remember", desc := "(LDriverHost$World;)V" } : Jvm.MethodName)) ∈ p_G := inC_5 10 rfl rfl
theorem w_971 : (Jvm.Cond.instanceMethod ({ cls := "DriverHost$History", name := "remember", desc := "(LDriverHost$World;)V" } : Jvm.MethodName)) ∈ p_G := inC_5 11 rfl rfl
theorem w_972 : (Jvm.Cond.selects "DriverHost$History" ({ cls := "DriverHost$History", name := "remember", desc := "(LDriverHost$World;)V" } : Jvm.MethodName) ({ cls := "DriverHost$History", name := "remember", desc := "(LDriverHost$World;)V" } : Jvm.MethodName)) ∈ p_G := inC_5 12 rfl rfl
theorem w_973 : (Jvm.Cond.code ({ cls := "DriverHost$History", name := "remember", desc := "(LDriverHost$World;)V" } : Jvm.MethodName) prog_5_method_3_code (3 : Nat) (Option.none : Option Jvm.ClassFile.FieldType)) ∈ p_G := inC_5 13 rfl rfl
theorem w_974 : (Jvm.Cond.methodLink "DriverHost$History" (28 : Nat) ({ cls := "DriverHost$World", name := "<init>", desc := "(LDriverHost$Program;)V" } : Jvm.MethodName)) ∈ p_G := inC_5 14 rfl rfl
theorem w_975 : (Jvm.Cond.methodLink "DriverHost$History" (35 : Nat) ({ cls := "java/lang/Math", name := "min", desc := "(II)I" } : Jvm.MethodName)) ∈ p_G := inC_5 15 rfl rfl
theorem w_976 : (Jvm.Cond.methodLink "DriverHost" (131 : Nat) ({ cls := "DriverHost$World", name := "addRequest", desc := "(II)LDriverHost$Request;" } : Jvm.MethodName)) ∈ p_G := inC_5 16 rfl rfl
theorem w_977 : (Jvm.Cond.instanceMethod ({ cls := "DriverHost$World", name := "addRequest", desc := "(II)LDriverHost$Request;" } : Jvm.MethodName)) ∈ p_G := inC_5 17 rfl rfl
theorem w_978 : (Jvm.Cond.selects "DriverHost$World" ({ cls := "DriverHost$World", name := "addRequest", desc := "(II)LDriverHost$Request;" } : Jvm.MethodName) ({ cls := "DriverHost$World", name := "addRequest", desc := "(II)LDriverHost$Request;" } : Jvm.MethodName)) ∈ p_G := inC_5 18 rfl rfl
theorem w_979 : (Jvm.Cond.code ({ cls := "DriverHost$World", name := "addRequest", desc := "(II)LDriverHost$Request;" } : Jvm.MethodName) prog_12_method_6_code (4 : Nat) (Option.some (Jvm.ClassFile.FieldType.object "DriverHost$Request"))) ∈ p_G := inC_5 19 rfl rfl
theorem w_980 : (Jvm.Cond.methodLink "DriverHost$World" (77 : Nat) ({ cls := "DriverHost$World", name := "requestAt", desc := "(I)LDriverHost$Request;" } : Jvm.MethodName)) ∈ p_G := inC_5 20 rfl rfl
theorem w_981 : (Jvm.Cond.instanceMethod ({ cls := "DriverHost$World", name := "requestAt", desc := "(I)LDriverHost$Request;" } : Jvm.MethodName)) ∈ p_G := inC_5 21 rfl rfl
theorem w_982 : (Jvm.Cond.selects "DriverHost$World" ({ cls := "DriverHost$World", name := "requestAt", desc := "(I)LDriverHost$Request;" } : Jvm.MethodName) ({ cls := "DriverHost$World", name := "requestAt", desc := "(I)LDriverHost$Request;" } : Jvm.MethodName)) ∈ p_G := inC_5 22 rfl rfl
theorem w_983 : (Jvm.Cond.code ({ cls := "DriverHost$World", name := "requestAt", desc := "(I)LDriverHost$Request;" } : Jvm.MethodName) prog_12_method_4_code (2 : Nat) (Option.some (Jvm.ClassFile.FieldType.object "DriverHost$Request"))) ∈ p_G := inC_5 23 rfl rfl
theorem w_985 : (Jvm.Cond.methodLink "DriverHost$World" (81 : Nat) ({ cls := "DriverHost$Request", name := "startAnew", desc := "(III)V" } : Jvm.MethodName)) ∈ p_G := inC_5 25 rfl rfl
theorem w_986 : (Jvm.Cond.instanceMethod ({ cls := "DriverHost$Request", name := "startAnew", desc := "(III)V" } : Jvm.MethodName)) ∈ p_G := inC_5 26 rfl rfl
theorem w_987 : (Jvm.Cond.selects "DriverHost$Request" ({ cls := "DriverHost$Request", name := "startAnew", desc := "(III)V" } : Jvm.MethodName) ({ cls := "DriverHost$Request", name := "startAnew", desc := "(III)V" } : Jvm.MethodName)) ∈ p_G := inC_5 27 rfl rfl
theorem w_988 : (Jvm.Cond.code ({ cls := "DriverHost$Request", name := "startAnew", desc := "(III)V" } : Jvm.MethodName) prog_9_method_2_code (4 : Nat) (Option.none : Option Jvm.ClassFile.FieldType)) ∈ p_G := inC_5 28 rfl rfl
theorem w_989 : (Jvm.Cond.methodLink "DriverHost" (146 : Nat) ({ cls := "DriverHost$World", name := "enqueue", desc := "(LDriverHost$Driver;LDriverHost$Request;I)V" } : Jvm.MethodName)) ∈ p_G := inC_5 29 rfl rfl
theorem w_990 : (Jvm.Cond.instanceMethod ({ cls := "DriverHost$World", name := "enqueue", desc := "(LDriverHost$Driver;LDriverHost$Request;I)V" } : Jvm.MethodName)) ∈ p_G := inC_5 30 rfl rfl
theorem w_991 : (Jvm.Cond.selects "DriverHost$World" ({ cls := "DriverHost$World", name := "enqueue", desc := "(LDriverHost$Driver;LDriverHost$Request;I)V" } : Jvm.MethodName) ({ cls := "DriverHost$World", name := "enqueue", desc := "(LDriverHost$Driver;LDriverHost$Request;I)V" } : Jvm.MethodName)) ∈ p_G := inC_5 31 rfl rfl
theorem w_992 : (Jvm.Cond.code ({ cls := "DriverHost$World", name := "enqueue", desc := "(LDriverHost$Driver;LDriverHost$Request;I)V" } : Jvm.MethodName) prog_12_method_25_code (4 : Nat) (Option.none : Option Jvm.ClassFile.FieldType)) ∈ p_G := inC_5 32 rfl rfl
theorem w_993 : (Jvm.Cond.methodLink "DriverHost$World" (215 : Nat) ({ cls := "DriverHost$Request", name := "deadline", desc := "()I" } : Jvm.MethodName)) ∈ p_G := inC_5 33 rfl rfl
theorem w_994 : (Jvm.Cond.instanceMethod ({ cls := "DriverHost$Request", name := "deadline", desc := "()I" } : Jvm.MethodName)) ∈ p_G := inC_5 34 rfl rfl
theorem w_995 : (Jvm.Cond.selects "DriverHost$Request" ({ cls := "DriverHost$Request", name := "deadline", desc := "()I" } : Jvm.MethodName) ({ cls := "DriverHost$Request", name := "deadline", desc := "()I" } : Jvm.MethodName)) ∈ p_G := inC_5 35 rfl rfl
theorem w_996 : (Jvm.Cond.code ({ cls := "DriverHost$Request", name := "deadline", desc := "()I" } : Jvm.MethodName) prog_9_method_5_code (1 : Nat) (Option.some Jvm.ClassFile.FieldType.int)) ∈ p_G := inC_5 36 rfl rfl
theorem w_997 : (Jvm.Cond.constant "DriverHost$Request" (60 : Nat) (2147483647 : Int32)) ∈ p_G := inC_5 37 rfl rfl
theorem w_998 : (Jvm.Cond.methodLink "DriverHost$World" (219 : Nat) ({ cls := "java/lang/Math", name := "min", desc := "(II)I" } : Jvm.MethodName)) ∈ p_G := inC_5 38 rfl rfl
theorem w_999 : (Jvm.Cond.methodLink "DriverHost$World" (128 : Nat) ({ cls := "DriverHost$Journal", name := "add", desc := "(IIII)V" } : Jvm.MethodName)) ∈ p_G := inC_5 39 rfl rfl
theorem w_1000 : (Jvm.Cond.instanceMethod ({ cls := "DriverHost$Journal", name := "add", desc := "(IIII)V" } : Jvm.MethodName)) ∈ p_G := inC_5 40 rfl rfl
theorem w_1001 : (Jvm.Cond.selects "DriverHost$Journal" ({ cls := "DriverHost$Journal", name := "add", desc := "(IIII)V" } : Jvm.MethodName) ({ cls := "DriverHost$Journal", name := "add", desc := "(IIII)V" } : Jvm.MethodName)) ∈ p_G := inC_5 41 rfl rfl
theorem w_1002 : (Jvm.Cond.code ({ cls := "DriverHost$Journal", name := "add", desc := "(IIII)V" } : Jvm.MethodName) prog_6_method_3_code (6 : Nat) (Option.none : Option Jvm.ClassFile.FieldType)) ∈ p_G := inC_5 42 rfl rfl
theorem w_1003 : (Jvm.Cond.methodLink "DriverHostLaw" (154 : Nat) ({ cls := "DriverHostLaw", name := "cancel", desc := "(LDriverHost;I[J)I" } : Jvm.MethodName)) ∈ p_G := inC_5 43 rfl rfl
theorem w_1004 : (Jvm.Cond.static ({ cls := "DriverHostLaw", name := "cancel", desc := "(LDriverHost;I[J)I" } : Jvm.MethodName)) ∈ p_G := inC_5 44 rfl rfl
theorem w_1005 : (Jvm.Cond.codeWith ({ cls := "DriverHostLaw", name := "cancel", desc := "(LDriverHost;I[J)I" } : Jvm.MethodName) method_7_code (4 : Nat) (Option.some Jvm.ClassFile.FieldType.int) [((0 : Nat), (9 : Nat), (12 : Nat), (18 : Nat))]) ∈ p_G := inC_5 45 rfl rfl
theorem w_1006 : (Jvm.Cond.methodLink "DriverHostLaw" (27 : Nat) ({ cls := "DriverHost", name := "cancel", desc := "(I)I" } : Jvm.MethodName)) ∈ p_G := inC_5 46 rfl rfl
theorem w_1007 : (Jvm.Cond.instanceMethod ({ cls := "DriverHost", name := "cancel", desc := "(I)I" } : Jvm.MethodName)) ∈ p_G := inC_5 47 rfl rfl
theorem w_1008 : (Jvm.Cond.selects "DriverHost" ({ cls := "DriverHost", name := "cancel", desc := "(I)I" } : Jvm.MethodName) ({ cls := "DriverHost", name := "cancel", desc := "(I)I" } : Jvm.MethodName)) ∈ p_G := inC_5 48 rfl rfl
theorem w_1009 : (Jvm.Cond.code ({ cls := "DriverHost", name := "cancel", desc := "(I)I" } : Jvm.MethodName) prog_1_method_13_code (3 : Nat) (Option.some Jvm.ClassFile.FieldType.int)) ∈ p_G := inC_5 49 rfl rfl
theorem w_1010 : (Jvm.Cond.methodLink "DriverHost" (153 : Nat) ({ cls := "DriverHost$World", name := "requestAt", desc := "(I)LDriverHost$Request;" } : Jvm.MethodName)) ∈ p_G := inC_5 50 rfl rfl
theorem w_1011 : (Jvm.Cond.methodLink "DriverHost" (158 : Nat) ({ cls := "DriverHost$World", name := "fail", desc := "(LDriverHost$Request;I)V" } : Jvm.MethodName)) ∈ p_G := inC_5 51 rfl rfl
theorem w_1012 : (Jvm.Cond.instanceMethod ({ cls := "DriverHost$World", name := "fail", desc := "(LDriverHost$Request;I)V" } : Jvm.MethodName)) ∈ p_G := inC_5 52 rfl rfl
theorem w_1013 : (Jvm.Cond.selects "DriverHost$World" ({ cls := "DriverHost$World", name := "fail", desc := "(LDriverHost$Request;I)V" } : Jvm.MethodName) ({ cls := "DriverHost$World", name := "fail", desc := "(LDriverHost$Request;I)V" } : Jvm.MethodName)) ∈ p_G := inC_5 53 rfl rfl
theorem w_1014 : (Jvm.Cond.code ({ cls := "DriverHost$World", name := "fail", desc := "(LDriverHost$Request;I)V" } : Jvm.MethodName) prog_12_method_24_code (4 : Nat) (Option.none : Option Jvm.ClassFile.FieldType)) ∈ p_G := inC_5 54 rfl rfl
theorem w_1015 : (Jvm.Cond.methodLink "DriverHost$World" (182 : Nat) ({ cls := "DriverHost$World", name := "driverAt", desc := "(I)LDriverHost$Driver;" } : Jvm.MethodName)) ∈ p_G := inC_5 55 rfl rfl
theorem w_1016 : (Jvm.Cond.methodLink "DriverHost$World" (229 : Nat) ({ cls := "DriverHost$World", name := "leaveQueue", desc := "(LDriverHost$Driver;LDriverHost$Request;)V" } : Jvm.MethodName)) ∈ p_G := inC_5 56 rfl rfl
theorem w_1018 : (Jvm.Cond.instanceMethod ({ cls := "DriverHost$World", name := "leaveQueue", desc := "(LDriverHost$Driver;LDriverHost$Request;)V" } : Jvm.MethodName)) ∈ p_G := inC_5 58 rfl rfl
theorem w_1019 : (Jvm.Cond.code ({ cls := "DriverHost$World", name := "leaveQueue", desc := "(LDriverHost$Driver;LDriverHost$Request;)V" } : Jvm.MethodName) prog_12_method_26_code (3 : Nat) (Option.none : Option Jvm.ClassFile.FieldType)) ∈ p_G := inC_5 59 rfl rfl
theorem w_1020 : (Jvm.Cond.methodLink "DriverHost$World" (269 : Nat) ({ cls := "DriverHost$Request", name := "end", desc := "(II)V" } : Jvm.MethodName)) ∈ p_G := inC_5 60 rfl rfl
theorem w_1021 : (Jvm.Cond.instanceMethod ({ cls := "DriverHost$Request", name := "end", desc := "(II)V" } : Jvm.MethodName)) ∈ p_G := inC_5 61 rfl rfl
theorem w_1022 : (Jvm.Cond.selects "DriverHost$Request" ({ cls := "DriverHost$Request", name := "end", desc := "(II)V" } : Jvm.MethodName) ({ cls := "DriverHost$Request", name := "end", desc := "(II)V" } : Jvm.MethodName)) ∈ p_G := inC_5 62 rfl rfl
theorem w_1023 : (Jvm.Cond.code ({ cls := "DriverHost$Request", name := "end", desc := "(II)V" } : Jvm.MethodName) prog_9_method_7_code (3 : Nat) (Option.none : Option Jvm.ClassFile.FieldType)) ∈ p_G := inC_5 63 rfl rfl
theorem w_1024 : (Jvm.Cond.methodLink "DriverHostLaw" (157 : Nat) ({ cls := "DriverHostLaw", name := "plan", desc := "(LDriverHost;III[J)I" } : Jvm.MethodName)) ∈ p_G := inC_5 64 rfl rfl
theorem w_1025 : (Jvm.Cond.static ({ cls := "DriverHostLaw", name := "plan", desc := "(LDriverHost;III[J)I" } : Jvm.MethodName)) ∈ p_G := inC_5 65 rfl rfl
theorem w_1026 : (Jvm.Cond.codeWith ({ cls := "DriverHostLaw", name := "plan", desc := "(LDriverHost;III[J)I" } : Jvm.MethodName) method_8_code (6 : Nat) (Option.some Jvm.ClassFile.FieldType.int) [((0 : Nat), (12 : Nat), (15 : Nat), (18 : Nat)), ((0 : Nat), (12 : Nat), (19 : Nat), (13 : Nat))]) ∈ p_G := inC_5 66 rfl rfl
theorem w_1027 : (Jvm.Cond.methodLink "DriverHostLaw" (30 : Nat) ({ cls := "DriverHost", name := "plan", desc := "(III)I" } : Jvm.MethodName)) ∈ p_G := inC_5 67 rfl rfl
theorem w_1028 : (Jvm.Cond.instanceMethod ({ cls := "DriverHost", name := "plan", desc := "(III)I" } : Jvm.MethodName)) ∈ p_G := inC_5 68 rfl rfl
theorem w_1029 : (Jvm.Cond.selects "DriverHost" ({ cls := "DriverHost", name := "plan", desc := "(III)I" } : Jvm.MethodName) ({ cls := "DriverHost", name := "plan", desc := "(III)I" } : Jvm.MethodName)) ∈ p_G := inC_5 69 rfl rfl
theorem w_1030 : (Jvm.Cond.code ({ cls := "DriverHost", name := "plan", desc := "(III)I" } : Jvm.MethodName) prog_1_method_14_code (6 : Nat) (Option.some Jvm.ClassFile.FieldType.int)) ∈ p_G := inC_5 70 rfl rfl
theorem w_1032 : (Jvm.Cond.methodLink "DriverHost" (164 : Nat) ({ cls := "DriverHost$Request", name := "isOver", desc := "()Z" } : Jvm.MethodName)) ∈ p_G := inC_5 72 rfl rfl
theorem w_1033 : (Jvm.Cond.instanceMethod ({ cls := "DriverHost$Request", name := "isOver", desc := "()Z" } : Jvm.MethodName)) ∈ p_G := inC_5 73 rfl rfl
theorem w_1034 : (Jvm.Cond.selects "DriverHost$Request" ({ cls := "DriverHost$Request", name := "isOver", desc := "()Z" } : Jvm.MethodName) ({ cls := "DriverHost$Request", name := "isOver", desc := "()Z" } : Jvm.MethodName)) ∈ p_G := inC_5 74 rfl rfl
theorem w_1035 : (Jvm.Cond.code ({ cls := "DriverHost$Request", name := "isOver", desc := "()Z" } : Jvm.MethodName) prog_9_method_4_code (1 : Nat) (Option.some Jvm.ClassFile.FieldType.boolean)) ∈ p_G := inC_5 75 rfl rfl
theorem w_1036 : (Jvm.Cond.methodLink "DriverHostLaw" (161 : Nat) ({ cls := "DriverHostLaw", name := "kill", desc := "(LDriverHost;I[J)I" } : Jvm.MethodName)) ∈ p_G := inC_5 76 rfl rfl
theorem w_1037 : (Jvm.Cond.static ({ cls := "DriverHostLaw", name := "kill", desc := "(LDriverHost;I[J)I" } : Jvm.MethodName)) ∈ p_G := inC_5 77 rfl rfl
theorem w_1038 : (Jvm.Cond.codeWith ({ cls := "DriverHostLaw", name := "kill", desc := "(LDriverHost;I[J)I" } : Jvm.MethodName) method_9_code (4 : Nat) (Option.some Jvm.ClassFile.FieldType.int) [((0 : Nat), (9 : Nat), (12 : Nat), (18 : Nat))]) ∈ p_G := inC_5 78 rfl rfl
theorem w_1039 : (Jvm.Cond.methodLink "DriverHostLaw" (34 : Nat) ({ cls := "DriverHost", name := "kill", desc := "(I)I" } : Jvm.MethodName)) ∈ p_G := inC_5 79 rfl rfl
theorem w_1040 : (Jvm.Cond.instanceMethod ({ cls := "DriverHost", name := "kill", desc := "(I)I" } : Jvm.MethodName)) ∈ p_G := inC_5 80 rfl rfl
theorem w_1041 : (Jvm.Cond.selects "DriverHost" ({ cls := "DriverHost", name := "kill", desc := "(I)I" } : Jvm.MethodName) ({ cls := "DriverHost", name := "kill", desc := "(I)I" } : Jvm.MethodName)) ∈ p_G := inC_5 81 rfl rfl
theorem w_1042 : (Jvm.Cond.code ({ cls := "DriverHost", name := "kill", desc := "(I)I" } : Jvm.MethodName) prog_1_method_15_code (3 : Nat) (Option.some Jvm.ClassFile.FieldType.int)) ∈ p_G := inC_5 82 rfl rfl
theorem w_1043 : (Jvm.Cond.methodLink "DriverHost" (174 : Nat) ({ cls := "DriverHost$World", name := "crash", desc := "(LDriverHost$Driver;)V" } : Jvm.MethodName)) ∈ p_G := inC_5 83 rfl rfl
theorem w_1044 : (Jvm.Cond.instanceMethod ({ cls := "DriverHost$World", name := "crash", desc := "(LDriverHost$Driver;)V" } : Jvm.MethodName)) ∈ p_G := inC_5 84 rfl rfl
theorem w_1045 : (Jvm.Cond.selects "DriverHost$World" ({ cls := "DriverHost$World", name := "crash", desc := "(LDriverHost$Driver;)V" } : Jvm.MethodName) ({ cls := "DriverHost$World", name := "crash", desc := "(LDriverHost$Driver;)V" } : Jvm.MethodName)) ∈ p_G := inC_5 85 rfl rfl
theorem w_1046 : (Jvm.Cond.code ({ cls := "DriverHost$World", name := "crash", desc := "(LDriverHost$Driver;)V" } : Jvm.MethodName) prog_12_method_20_code (2 : Nat) (Option.none : Option Jvm.ClassFile.FieldType)) ∈ p_G := inC_5 86 rfl rfl
theorem w_1047 : (Jvm.Cond.methodLink "DriverHost$World" (292 : Nat) ({ cls := "DriverHost$World", name := "strike", desc := "(LDriverHost$Request;)V" } : Jvm.MethodName)) ∈ p_G := inC_5 87 rfl rfl
theorem w_1049 : (Jvm.Cond.instanceMethod ({ cls := "DriverHost$World", name := "strike", desc := "(LDriverHost$Request;)V" } : Jvm.MethodName)) ∈ p_G := inC_5 89 rfl rfl
theorem w_1050 : (Jvm.Cond.code ({ cls := "DriverHost$World", name := "strike", desc := "(LDriverHost$Request;)V" } : Jvm.MethodName) prog_12_method_21_code (2 : Nat) (Option.none : Option Jvm.ClassFile.FieldType)) ∈ p_G := inC_5 90 rfl rfl
theorem w_1051 : (Jvm.Cond.methodLink "DriverHost$World" (148 : Nat) ({ cls := "DriverHost$World", name := "fail", desc := "(LDriverHost$Request;I)V" } : Jvm.MethodName)) ∈ p_G := inC_5 91 rfl rfl
theorem w_1052 : (Jvm.Cond.methodLink "DriverHost$World" (298 : Nat) ({ cls := "DriverHost$World", name := "die", desc := "(LDriverHost$Driver;)V" } : Jvm.MethodName)) ∈ p_G := inC_5 92 rfl rfl
theorem w_1054 : (Jvm.Cond.instanceMethod ({ cls := "DriverHost$World", name := "die", desc := "(LDriverHost$Driver;)V" } : Jvm.MethodName)) ∈ p_G := inC_5 94 rfl rfl
theorem w_1055 : (Jvm.Cond.code ({ cls := "DriverHost$World", name := "die", desc := "(LDriverHost$Driver;)V" } : Jvm.MethodName) prog_12_method_22_code (4 : Nat) (Option.none : Option Jvm.ClassFile.FieldType)) ∈ p_G := inC_5 95 rfl rfl
theorem w_1056 : (Jvm.Cond.methodLink "DriverHost$World" (313 : Nat) ({ cls := "DriverHost$Driver", name := "clearVariables", desc := "()V" } : Jvm.MethodName)) ∈ p_G := inC_5 96 rfl rfl
theorem w_1057 : (Jvm.Cond.instanceMethod ({ cls := "DriverHost$Driver", name := "clearVariables", desc := "()V" } : Jvm.MethodName)) ∈ p_G := inC_5 97 rfl rfl
theorem w_1058 : (Jvm.Cond.selects "DriverHost$Driver" ({ cls := "DriverHost$Driver", name := "clearVariables", desc := "()V" } : Jvm.MethodName) ({ cls := "DriverHost$Driver", name := "clearVariables", desc := "()V" } : Jvm.MethodName)) ∈ p_G := inC_5 98 rfl rfl
theorem w_1059 : (Jvm.Cond.code ({ cls := "DriverHost$Driver", name := "clearVariables", desc := "()V" } : Jvm.MethodName) prog_4_method_11_code (2 : Nat) (Option.none : Option Jvm.ClassFile.FieldType)) ∈ p_G := inC_5 99 rfl rfl
theorem w_1060 : (Jvm.Cond.methodLink "DriverHost$World" (316 : Nat) ({ cls := "DriverHost$Request", name := "isOver", desc := "()Z" } : Jvm.MethodName)) ∈ p_G := inC_5 100 rfl rfl
theorem w_1061 : (Jvm.Cond.methodLink "DriverHost$World" (301 : Nat) ({ cls := "DriverHost$World", name := "delayFor", desc := "(I)I" } : Jvm.MethodName)) ∈ p_G := inC_5 101 rfl rfl
theorem w_1063 : (Jvm.Cond.instanceMethod ({ cls := "DriverHost$World", name := "delayFor", desc := "(I)I" } : Jvm.MethodName)) ∈ p_G := inC_5 103 rfl rfl
theorem w_1064 : (Jvm.Cond.code ({ cls := "DriverHost$World", name := "delayFor", desc := "(I)I" } : Jvm.MethodName) prog_12_method_23_code (4 : Nat) (Option.some Jvm.ClassFile.FieldType.int)) ∈ p_G := inC_5 104 rfl rfl
theorem w_1065 : (Jvm.Cond.methodLink "DriverHost$World" (304 : Nat) ({ cls := "DriverHost$Driver", name := "goDown", desc := "(I)V" } : Jvm.MethodName)) ∈ p_G := inC_5 105 rfl rfl
theorem w_1066 : (Jvm.Cond.instanceMethod ({ cls := "DriverHost$Driver", name := "goDown", desc := "(I)V" } : Jvm.MethodName)) ∈ p_G := inC_5 106 rfl rfl
theorem w_1067 : (Jvm.Cond.selects "DriverHost$Driver" ({ cls := "DriverHost$Driver", name := "goDown", desc := "(I)V" } : Jvm.MethodName) ({ cls := "DriverHost$Driver", name := "goDown", desc := "(I)V" } : Jvm.MethodName)) ∈ p_G := inC_5 107 rfl rfl
theorem w_1068 : (Jvm.Cond.code ({ cls := "DriverHost$Driver", name := "goDown", desc := "(I)V" } : Jvm.MethodName) prog_4_method_10_code (2 : Nat) (Option.none : Option Jvm.ClassFile.FieldType)) ∈ p_G := inC_5 108 rfl rfl
theorem w_1069 : (Jvm.Cond.methodLink "DriverHost$Driver" (77 : Nat) ({ cls := "DriverHost$Driver", name := "clearVariables", desc := "()V" } : Jvm.MethodName)) ∈ p_G := inC_5 109 rfl rfl
theorem w_1070 : (Jvm.Cond.methodLink "DriverHostLaw" (164 : Nat) ({ cls := "DriverHostLaw", name := "replace", desc := "(LDriverHost;I[J)I" } : Jvm.MethodName)) ∈ p_G := inC_5 110 rfl rfl
theorem w_1071 : (Jvm.Cond.static ({ cls := "DriverHostLaw", name := "replace", desc := "(LDriverHost;I[J)I" } : Jvm.MethodName)) ∈ p_G := inC_5 111 rfl rfl
theorem w_1072 : (Jvm.Cond.codeWith ({ cls := "DriverHostLaw", name := "replace", desc := "(LDriverHost;I[J)I" } : Jvm.MethodName) method_10_code (4 : Nat) (Option.some Jvm.ClassFile.FieldType.int) [((0 : Nat), (9 : Nat), (12 : Nat), (18 : Nat))]) ∈ p_G := inC_5 112 rfl rfl
theorem w_1073 : (Jvm.Cond.methodLink "DriverHostLaw" (37 : Nat) ({ cls := "DriverHost", name := "replace", desc := "(I)I" } : Jvm.MethodName)) ∈ p_G := inC_5 113 rfl rfl
theorem w_1074 : (Jvm.Cond.instanceMethod ({ cls := "DriverHost", name := "replace", desc := "(I)I" } : Jvm.MethodName)) ∈ p_G := inC_5 114 rfl rfl
theorem w_1075 : (Jvm.Cond.selects "DriverHost" ({ cls := "DriverHost", name := "replace", desc := "(I)I" } : Jvm.MethodName) ({ cls := "DriverHost", name := "replace", desc := "(I)I" } : Jvm.MethodName)) ∈ p_G := inC_5 115 rfl rfl
theorem w_1076 : (Jvm.Cond.code ({ cls := "DriverHost", name := "replace", desc := "(I)I" } : Jvm.MethodName) prog_1_method_16_code (3 : Nat) (Option.some Jvm.ClassFile.FieldType.int)) ∈ p_G := inC_5 116 rfl rfl
theorem w_1077 : (Jvm.Cond.methodLink "DriverHost" (181 : Nat) ({ cls := "DriverHost$World", name := "snapshot", desc := "(LDriverHost$Driver;)V" } : Jvm.MethodName)) ∈ p_G := inC_5 117 rfl rfl
theorem w_1078 : (Jvm.Cond.instanceMethod ({ cls := "DriverHost$World", name := "snapshot", desc := "(LDriverHost$Driver;)V" } : Jvm.MethodName)) ∈ p_G := inC_5 118 rfl rfl
theorem w_1079 : (Jvm.Cond.selects "DriverHost$World" ({ cls := "DriverHost$World", name := "snapshot", desc := "(LDriverHost$Driver;)V" } : Jvm.MethodName) ({ cls := "DriverHost$World", name := "snapshot", desc := "(LDriverHost$Driver;)V" } : Jvm.MethodName)) ∈ p_G := inC_5 119 rfl rfl
theorem w_1080 : (Jvm.Cond.code ({ cls := "DriverHost$World", name := "snapshot", desc := "(LDriverHost$Driver;)V" } : Jvm.MethodName) prog_12_method_19_code (2 : Nat) (Option.none : Option Jvm.ClassFile.FieldType)) ∈ p_G := inC_5 120 rfl rfl
theorem w_1081 : (Jvm.Cond.methodLink "DriverHost$World" (289 : Nat) ({ cls := "DriverHost$Driver", name := "saveVariables", desc := "()V" } : Jvm.MethodName)) ∈ p_G := inC_5 121 rfl rfl
theorem w_1082 : (Jvm.Cond.instanceMethod ({ cls := "DriverHost$Driver", name := "saveVariables", desc := "()V" } : Jvm.MethodName)) ∈ p_G := inC_5 122 rfl rfl
theorem w_1083 : (Jvm.Cond.selects "DriverHost$Driver" ({ cls := "DriverHost$Driver", name := "saveVariables", desc := "()V" } : Jvm.MethodName) ({ cls := "DriverHost$Driver", name := "saveVariables", desc := "()V" } : Jvm.MethodName)) ∈ p_G := inC_5 123 rfl rfl
theorem w_1084 : (Jvm.Cond.code ({ cls := "DriverHost$Driver", name := "saveVariables", desc := "()V" } : Jvm.MethodName) prog_4_method_12_code (1 : Nat) (Option.none : Option Jvm.ClassFile.FieldType)) ∈ p_G := inC_5 124 rfl rfl
theorem w_1085 : (Jvm.Cond.methodLink "DriverHost" (187 : Nat) ({ cls := "DriverHost$Driver", name := "goDown", desc := "(I)V" } : Jvm.MethodName)) ∈ p_G := inC_5 125 rfl rfl
theorem w_1086 : (Jvm.Cond.methodLink "DriverHostLaw" (167 : Nat) ({ cls := "DriverHostLaw", name := "takeSnapshot", desc := "(LDriverHost;I[J)I" } : Jvm.MethodName)) ∈ p_G := inC_5 126 rfl rfl
theorem w_1087 : (Jvm.Cond.static ({ cls := "DriverHostLaw", name := "takeSnapshot", desc := "(LDriverHost;I[J)I" } : Jvm.MethodName)) ∈ p_G := inC_5 127 rfl rfl
theorem w_1088 : (Jvm.Cond.codeWith ({ cls := "DriverHostLaw", name := "takeSnapshot", desc := "(LDriverHost;I[J)I" } : Jvm.MethodName) method_11_code (4 : Nat) (Option.some Jvm.ClassFile.FieldType.int) [((0 : Nat), (9 : Nat), (12 : Nat), (18 : Nat))]) ∈ p_G := inC_5 128 rfl rfl
theorem w_1089 : (Jvm.Cond.methodLink "DriverHostLaw" (40 : Nat) ({ cls := "DriverHost", name := "takeSnapshot", desc := "(I)I" } : Jvm.MethodName)) ∈ p_G := inC_5 129 rfl rfl
theorem w_1090 : (Jvm.Cond.instanceMethod ({ cls := "DriverHost", name := "takeSnapshot", desc := "(I)I" } : Jvm.MethodName)) ∈ p_G := inC_5 130 rfl rfl
theorem w_1091 : (Jvm.Cond.selects "DriverHost" ({ cls := "DriverHost", name := "takeSnapshot", desc := "(I)I" } : Jvm.MethodName) ({ cls := "DriverHost", name := "takeSnapshot", desc := "(I)I" } : Jvm.MethodName)) ∈ p_G := inC_5 131 rfl rfl
theorem w_1092 : (Jvm.Cond.code ({ cls := "DriverHost", name := "takeSnapshot", desc := "(I)I" } : Jvm.MethodName) prog_1_method_17_code (4 : Nat) (Option.some Jvm.ClassFile.FieldType.int)) ∈ p_G := inC_5 132 rfl rfl
theorem w_1093 : (Jvm.Cond.methodLink "DriverHostLaw" (170 : Nat) ({ cls := "DriverHostLaw", name := "poke", desc := "(LDriverHost;III[J)I" } : Jvm.MethodName)) ∈ p_G := inC_5 133 rfl rfl
theorem w_1094 : (Jvm.Cond.static ({ cls := "DriverHostLaw", name := "poke", desc := "(LDriverHost;III[J)I" } : Jvm.MethodName)) ∈ p_G := inC_5 134 rfl rfl
theorem w_1095 : (Jvm.Cond.codeWith ({ cls := "DriverHostLaw", name := "poke", desc := "(LDriverHost;III[J)I" } : Jvm.MethodName) method_12_code (6 : Nat) (Option.some Jvm.ClassFile.FieldType.int) [((0 : Nat), (12 : Nat), (15 : Nat), (18 : Nat)), ((0 : Nat), (12 : Nat), (19 : Nat), (13 : Nat))]) ∈ p_G := inC_5 135 rfl rfl
theorem w_1096 : (Jvm.Cond.methodLink "DriverHostLaw" (43 : Nat) ({ cls := "DriverHost", name := "poke", desc := "(III)I" } : Jvm.MethodName)) ∈ p_G := inC_5 136 rfl rfl
theorem w_1097 : (Jvm.Cond.instanceMethod ({ cls := "DriverHost", name := "poke", desc := "(III)I" } : Jvm.MethodName)) ∈ p_G := inC_5 137 rfl rfl
theorem w_1098 : (Jvm.Cond.selects "DriverHost" ({ cls := "DriverHost", name := "poke", desc := "(III)I" } : Jvm.MethodName) ({ cls := "DriverHost", name := "poke", desc := "(III)I" } : Jvm.MethodName)) ∈ p_G := inC_5 138 rfl rfl
theorem w_1099 : (Jvm.Cond.code ({ cls := "DriverHost", name := "poke", desc := "(III)I" } : Jvm.MethodName) prog_1_method_18_code (6 : Nat) (Option.some Jvm.ClassFile.FieldType.int)) ∈ p_G := inC_5 139 rfl rfl
theorem w_1100 : (Jvm.Cond.methodLink "DriverHost" (196 : Nat) ({ cls := "DriverHost$Driver", name := "registerAt", desc := "(I)I" } : Jvm.MethodName)) ∈ p_G := inC_5 140 rfl rfl
theorem w_1101 : (Jvm.Cond.instanceMethod ({ cls := "DriverHost$Driver", name := "registerAt", desc := "(I)I" } : Jvm.MethodName)) ∈ p_G := inC_5 141 rfl rfl
theorem w_1102 : (Jvm.Cond.selects "DriverHost$Driver" ({ cls := "DriverHost$Driver", name := "registerAt", desc := "(I)I" } : Jvm.MethodName) ({ cls := "DriverHost$Driver", name := "registerAt", desc := "(I)I" } : Jvm.MethodName)) ∈ p_G := inC_5 142 rfl rfl
theorem w_1103 : (Jvm.Cond.code ({ cls := "DriverHost$Driver", name := "registerAt", desc := "(I)I" } : Jvm.MethodName) prog_4_method_3_code (2 : Nat) (Option.some Jvm.ClassFile.FieldType.int)) ∈ p_G := inC_5 143 rfl rfl
theorem w_1104 : (Jvm.Cond.classLink "DriverHost$Driver" (68 : Nat) "java/util/NoSuchElementException") ∈ p_G := inC_5 144 rfl rfl
theorem w_1107 : (Jvm.Cond.constant "DriverHost" (200 : Nat) (65535 : Int32)) ∈ p_G := inC_5 147 rfl rfl
theorem w_1109 : (Jvm.Cond.methodLink "DriverHost" (203 : Nat) ({ cls := "DriverHost$Driver", name := "store", desc := "(II)V" } : Jvm.MethodName)) ∈ p_G := inC_5 149 rfl rfl
theorem w_1110 : (Jvm.Cond.instanceMethod ({ cls := "DriverHost$Driver", name := "store", desc := "(II)V" } : Jvm.MethodName)) ∈ p_G := inC_5 150 rfl rfl
theorem w_1111 : (Jvm.Cond.selects "DriverHost$Driver" ({ cls := "DriverHost$Driver", name := "store", desc := "(II)V" } : Jvm.MethodName) ({ cls := "DriverHost$Driver", name := "store", desc := "(II)V" } : Jvm.MethodName)) ∈ p_G := inC_5 151 rfl rfl
theorem w_1112 : (Jvm.Cond.code ({ cls := "DriverHost$Driver", name := "store", desc := "(II)V" } : Jvm.MethodName) prog_4_method_7_code (3 : Nat) (Option.none : Option Jvm.ClassFile.FieldType)) ∈ p_G := inC_5 152 rfl rfl
theorem w_1113 : (Jvm.Cond.methodLink "DriverHostLaw" (173 : Nat) ({ cls := "DriverHostLaw", name := "run", desc := "(LDriverHost;I[J)I" } : Jvm.MethodName)) ∈ p_G := inC_5 153 rfl rfl
theorem w_1114 : (Jvm.Cond.static ({ cls := "DriverHostLaw", name := "run", desc := "(LDriverHost;I[J)I" } : Jvm.MethodName)) ∈ p_G := inC_5 154 rfl rfl
theorem w_1115 : (Jvm.Cond.codeWith ({ cls := "DriverHostLaw", name := "run", desc := "(LDriverHost;I[J)I" } : Jvm.MethodName) method_13_code (4 : Nat) (Option.some Jvm.ClassFile.FieldType.int) [((0 : Nat), (9 : Nat), (12 : Nat), (13 : Nat))]) ∈ p_G := inC_5 155 rfl rfl
theorem w_1116 : (Jvm.Cond.methodLink "DriverHostLaw" (46 : Nat) ({ cls := "DriverHost", name := "run", desc := "(I)I" } : Jvm.MethodName)) ∈ p_G := inC_5 156 rfl rfl
theorem w_1117 : (Jvm.Cond.instanceMethod ({ cls := "DriverHost", name := "run", desc := "(I)I" } : Jvm.MethodName)) ∈ p_G := inC_5 157 rfl rfl
theorem w_1118 : (Jvm.Cond.selects "DriverHost" ({ cls := "DriverHost", name := "run", desc := "(I)I" } : Jvm.MethodName) ({ cls := "DriverHost", name := "run", desc := "(I)I" } : Jvm.MethodName)) ∈ p_G := inC_5 158 rfl rfl
theorem w_1119 : (Jvm.Cond.code ({ cls := "DriverHost", name := "run", desc := "(I)I" } : Jvm.MethodName) prog_1_method_19_code (3 : Nat) (Option.some Jvm.ClassFile.FieldType.int)) ∈ p_G := inC_5 159 rfl rfl
theorem w_1121 : (Jvm.Cond.constant "DriverHost" (209 : Nat) (1000000 : Int32)) ∈ p_G := inC_5 161 rfl rfl
theorem w_1122 : (Jvm.Cond.methodLink "DriverHost" (210 : Nat) ({ cls := "DriverHost$World", name := "completions", desc := "()I" } : Jvm.MethodName)) ∈ p_G := inC_5 162 rfl rfl
theorem w_1123 : (Jvm.Cond.instanceMethod ({ cls := "DriverHost$World", name := "completions", desc := "()I" } : Jvm.MethodName)) ∈ p_G := inC_5 163 rfl rfl
theorem w_1124 : (Jvm.Cond.selects "DriverHost$World" ({ cls := "DriverHost$World", name := "completions", desc := "()I" } : Jvm.MethodName) ({ cls := "DriverHost$World", name := "completions", desc := "()I" } : Jvm.MethodName)) ∈ p_G := inC_5 164 rfl rfl
theorem w_1125 : (Jvm.Cond.code ({ cls := "DriverHost$World", name := "completions", desc := "()I" } : Jvm.MethodName) prog_12_method_5_code (1 : Nat) (Option.some Jvm.ClassFile.FieldType.int)) ∈ p_G := inC_5 165 rfl rfl
theorem w_1126 : (Jvm.Cond.methodLink "DriverHost$World" (73 : Nat) ({ cls := "DriverHost$Journal", name := "totalOf", desc := "(I)I" } : Jvm.MethodName)) ∈ p_G := inC_5 166 rfl rfl
theorem w_1127 : (Jvm.Cond.methodLink "DriverHost" (214 : Nat) ({ cls := "DriverHost$World", name := "pass", desc := "(I)V" } : Jvm.MethodName)) ∈ p_G := inC_5 167 rfl rfl
theorem w_1128 : (Jvm.Cond.instanceMethod ({ cls := "DriverHost$World", name := "pass", desc := "(I)V" } : Jvm.MethodName)) ∈ p_G := inC_5 168 rfl rfl
theorem w_1129 : (Jvm.Cond.selects "DriverHost$World" ({ cls := "DriverHost$World", name := "pass", desc := "(I)V" } : Jvm.MethodName) ({ cls := "DriverHost$World", name := "pass", desc := "(I)V" } : Jvm.MethodName)) ∈ p_G := inC_5 169 rfl rfl
theorem w_1130 : (Jvm.Cond.code ({ cls := "DriverHost$World", name := "pass", desc := "(I)V" } : Jvm.MethodName) prog_12_method_7_code (4 : Nat) (Option.none : Option Jvm.ClassFile.FieldType)) ∈ p_G := inC_5 170 rfl rfl
theorem w_1131 : (Jvm.Cond.methodLink "DriverHost$World" (85 : Nat) ({ cls := "DriverHost$World", name := "step", desc := "(LDriverHost$Driver;)V" } : Jvm.MethodName)) ∈ p_G := inC_5 171 rfl rfl
theorem w_1133 : (Jvm.Cond.instanceMethod ({ cls := "DriverHost$World", name := "step", desc := "(LDriverHost$Driver;)V" } : Jvm.MethodName)) ∈ p_G := inC_5 173 rfl rfl
theorem w_1134 : (Jvm.Cond.code ({ cls := "DriverHost$World", name := "step", desc := "(LDriverHost$Driver;)V" } : Jvm.MethodName) prog_12_method_8_code (2 : Nat) (Option.none : Option Jvm.ClassFile.FieldType)) ∈ p_G := inC_5 174 rfl rfl
theorem w_1135 : (Jvm.Cond.methodLink "DriverHost$World" (94 : Nat) ({ cls := "DriverHost$World", name := "restart", desc := "(LDriverHost$Driver;)V" } : Jvm.MethodName)) ∈ p_G := inC_5 175 rfl rfl
theorem w_1137 : (Jvm.Cond.instanceMethod ({ cls := "DriverHost$World", name := "restart", desc := "(LDriverHost$Driver;)V" } : Jvm.MethodName)) ∈ p_G := inC_5 177 rfl rfl
theorem w_1138 : (Jvm.Cond.code ({ cls := "DriverHost$World", name := "restart", desc := "(LDriverHost$Driver;)V" } : Jvm.MethodName) prog_12_method_9_code (4 : Nat) (Option.none : Option Jvm.ClassFile.FieldType)) ∈ p_G := inC_5 178 rfl rfl
theorem w_1139 : (Jvm.Cond.methodLink "DriverHost$World" (132 : Nat) ({ cls := "DriverHost$Driver", name := "restoreVariables", desc := "()V" } : Jvm.MethodName)) ∈ p_G := inC_5 179 rfl rfl
theorem w_1140 : (Jvm.Cond.instanceMethod ({ cls := "DriverHost$Driver", name := "restoreVariables", desc := "()V" } : Jvm.MethodName)) ∈ p_G := inC_5 180 rfl rfl
theorem w_1141 : (Jvm.Cond.selects "DriverHost$Driver" ({ cls := "DriverHost$Driver", name := "restoreVariables", desc := "()V" } : Jvm.MethodName) ({ cls := "DriverHost$Driver", name := "restoreVariables", desc := "()V" } : Jvm.MethodName)) ∈ p_G := inC_5 181 rfl rfl
theorem w_1142 : (Jvm.Cond.code ({ cls := "DriverHost$Driver", name := "restoreVariables", desc := "()V" } : Jvm.MethodName) prog_4_method_13_code (1 : Nat) (Option.none : Option Jvm.ClassFile.FieldType)) ∈ p_G := inC_5 182 rfl rfl
theorem w_1143 : (Jvm.Cond.methodLink "DriverHost$World" (138 : Nat) ({ cls := "DriverHost$Driver", name := "logAt", desc := "(I)I" } : Jvm.MethodName)) ∈ p_G := inC_5 183 rfl rfl
theorem w_1144 : (Jvm.Cond.instanceMethod ({ cls := "DriverHost$Driver", name := "logAt", desc := "(I)I" } : Jvm.MethodName)) ∈ p_G := inC_5 184 rfl rfl
theorem w_1145 : (Jvm.Cond.selects "DriverHost$Driver" ({ cls := "DriverHost$Driver", name := "logAt", desc := "(I)I" } : Jvm.MethodName) ({ cls := "DriverHost$Driver", name := "logAt", desc := "(I)I" } : Jvm.MethodName)) ∈ p_G := inC_5 185 rfl rfl
theorem w_1146 : (Jvm.Cond.code ({ cls := "DriverHost$Driver", name := "logAt", desc := "(I)I" } : Jvm.MethodName) prog_4_method_6_code (2 : Nat) (Option.some Jvm.ClassFile.FieldType.int)) ∈ p_G := inC_5 186 rfl rfl
theorem w_1147 : (Jvm.Cond.methodLink "DriverHost$World" (141 : Nat) ({ cls := "DriverHost$World", name := "doKeepings", desc := "(LDriverHost$Driver;LDriverHost$Request;)V" } : Jvm.MethodName)) ∈ p_G := inC_5 187 rfl rfl
theorem w_1149 : (Jvm.Cond.instanceMethod ({ cls := "DriverHost$World", name := "doKeepings", desc := "(LDriverHost$Driver;LDriverHost$Request;)V" } : Jvm.MethodName)) ∈ p_G := inC_5 189 rfl rfl
theorem w_1150 : (Jvm.Cond.code ({ cls := "DriverHost$World", name := "doKeepings", desc := "(LDriverHost$Driver;LDriverHost$Request;)V" } : Jvm.MethodName) prog_12_method_17_code (4 : Nat) (Option.none : Option Jvm.ClassFile.FieldType)) ∈ p_G := inC_5 190 rfl rfl
theorem w_1151 : (Jvm.Cond.methodLink "DriverHost$World" (170 : Nat) ({ cls := "DriverHost$Program", name := "commandAt", desc := "(I)LDriverHost$Command;" } : Jvm.MethodName)) ∈ p_G := inC_5 191 rfl rfl
theorem w_1152 : (Jvm.Cond.methodLink "DriverHost$World" (189 : Nat) ({ cls := "DriverHost$Driver", name := "present", desc := "(II)V" } : Jvm.MethodName)) ∈ p_G := inC_5 192 rfl rfl
theorem w_1153 : (Jvm.Cond.instanceMethod ({ cls := "DriverHost$Driver", name := "present", desc := "(II)V" } : Jvm.MethodName)) ∈ p_G := inC_5 193 rfl rfl
theorem w_1154 : (Jvm.Cond.selects "DriverHost$Driver" ({ cls := "DriverHost$Driver", name := "present", desc := "(II)V" } : Jvm.MethodName) ({ cls := "DriverHost$Driver", name := "present", desc := "(II)V" } : Jvm.MethodName)) ∈ p_G := inC_5 194 rfl rfl
theorem w_1155 : (Jvm.Cond.code ({ cls := "DriverHost$Driver", name := "present", desc := "(II)V" } : Jvm.MethodName) prog_4_method_8_code (3 : Nat) (Option.none : Option Jvm.ClassFile.FieldType)) ∈ p_G := inC_5 195 rfl rfl
theorem w_1156 : (Jvm.Cond.methodLink "DriverHost$World" (207 : Nat) ({ cls := "DriverHost$Code", name := "execute", desc := "(II[I)I" } : Jvm.MethodName)) ∈ p_G := inC_5 196 rfl rfl
theorem w_1157 : (Jvm.Cond.instanceMethod ({ cls := "DriverHost$Code", name := "execute", desc := "(II[I)I" } : Jvm.MethodName)) ∈ p_G := inC_5 197 rfl rfl
theorem w_1158 : (Jvm.Cond.selects "DriverHost$Code" ({ cls := "DriverHost$Code", name := "execute", desc := "(II[I)I" } : Jvm.MethodName) ({ cls := "DriverHost$Code", name := "execute", desc := "(II[I)I" } : Jvm.MethodName)) ∈ p_G := inC_5 198 rfl rfl
theorem w_1159 : (Jvm.Cond.code ({ cls := "DriverHost$Code", name := "execute", desc := "(II[I)I" } : Jvm.MethodName) prog_2_method_3_code (8 : Nat) (Option.some Jvm.ClassFile.FieldType.int)) ∈ p_G := inC_5 199 rfl rfl
theorem w_1160 : (Jvm.Cond.methodLink "DriverHost$Code" (31 : Nat) ({ cls := "DriverHost$Code", name := "cellAt", desc := "([II)I" } : Jvm.MethodName)) ∈ p_G := inC_5 200 rfl rfl
theorem w_1161 : (Jvm.Cond.static ({ cls := "DriverHost$Code", name := "cellAt", desc := "([II)I" } : Jvm.MethodName)) ∈ p_G := inC_5 201 rfl rfl
theorem w_1162 : (Jvm.Cond.code ({ cls := "DriverHost$Code", name := "cellAt", desc := "([II)I" } : Jvm.MethodName) prog_2_method_4_code (2 : Nat) (Option.some Jvm.ClassFile.FieldType.int)) ∈ p_G := inC_5 202 rfl rfl
theorem w_1163 : (Jvm.Cond.constant "DriverHost$Code" (35 : Nat) (65535 : Int32)) ∈ p_G := inC_5 203 rfl rfl
theorem w_1164 : (Jvm.Cond.methodLink "DriverHost$Code" (36 : Nat) ({ cls := "DriverHost$Code", name := "join", desc := "(III)I" } : Jvm.MethodName)) ∈ p_G := inC_5 204 rfl rfl
theorem w_1165 : (Jvm.Cond.static ({ cls := "DriverHost$Code", name := "join", desc := "(III)I" } : Jvm.MethodName)) ∈ p_G := inC_5 205 rfl rfl
theorem w_1166 : (Jvm.Cond.code ({ cls := "DriverHost$Code", name := "join", desc := "(III)I" } : Jvm.MethodName) prog_2_method_5_code (3 : Nat) (Option.some Jvm.ClassFile.FieldType.int)) ∈ p_G := inC_5 206 rfl rfl
theorem w_1167 : (Jvm.Cond.methodLink "DriverHost$World" (144 : Nat) ({ cls := "DriverHost$World", name := "decide", desc := "(LDriverHost$Request;)I" } : Jvm.MethodName)) ∈ p_G := inC_5 207 rfl rfl
theorem w_1168 : (Jvm.Cond.instanceMethod ({ cls := "DriverHost$World", name := "decide", desc := "(LDriverHost$Request;)I" } : Jvm.MethodName)) ∈ p_G := inC_5 208 rfl rfl
theorem w_1169 : (Jvm.Cond.selects "DriverHost$World" ({ cls := "DriverHost$World", name := "decide", desc := "(LDriverHost$Request;)I" } : Jvm.MethodName) ({ cls := "DriverHost$World", name := "decide", desc := "(LDriverHost$Request;)I" } : Jvm.MethodName)) ∈ p_G := inC_5 209 rfl rfl
theorem w_1170 : (Jvm.Cond.code ({ cls := "DriverHost$World", name := "decide", desc := "(LDriverHost$Request;)I" } : Jvm.MethodName) prog_12_method_10_code (5 : Nat) (Option.some Jvm.ClassFile.FieldType.int)) ∈ p_G := inC_5 210 rfl rfl
theorem w_1171 : (Jvm.Cond.methodLink "DriverHost$World" (152 : Nat) ({ cls := "DriverHost$World", name := "resultNow", desc := "(LDriverHost$Driver;LDriverHost$Request;)I" } : Jvm.MethodName)) ∈ p_G := inC_5 211 rfl rfl
theorem w_1173 : (Jvm.Cond.instanceMethod ({ cls := "DriverHost$World", name := "resultNow", desc := "(LDriverHost$Driver;LDriverHost$Request;)I" } : Jvm.MethodName)) ∈ p_G := inC_5 213 rfl rfl
theorem w_1174 : (Jvm.Cond.code ({ cls := "DriverHost$World", name := "resultNow", desc := "(LDriverHost$Driver;LDriverHost$Request;)I" } : Jvm.MethodName) prog_12_method_16_code (4 : Nat) (Option.some Jvm.ClassFile.FieldType.int)) ∈ p_G := inC_5 214 rfl rfl
theorem w_1175 : (Jvm.Cond.methodLink "DriverHost$World" (156 : Nat) ({ cls := "DriverHost$World", name := "complete", desc := "(LDriverHost$Driver;LDriverHost$Request;I)V" } : Jvm.MethodName)) ∈ p_G := inC_5 215 rfl rfl
theorem w_1177 : (Jvm.Cond.instanceMethod ({ cls := "DriverHost$World", name := "complete", desc := "(LDriverHost$Driver;LDriverHost$Request;I)V" } : Jvm.MethodName)) ∈ p_G := inC_5 217 rfl rfl
theorem w_1178 : (Jvm.Cond.code ({ cls := "DriverHost$World", name := "complete", desc := "(LDriverHost$Driver;LDriverHost$Request;I)V" } : Jvm.MethodName) prog_12_method_18_code (4 : Nat) (Option.none : Option Jvm.ClassFile.FieldType)) ∈ p_G := inC_5 218 rfl rfl
theorem w_1179 : (Jvm.Cond.methodLink "DriverHost$World" (280 : Nat) ({ cls := "DriverHost$Driver", name := "addToLog", desc := "(I)V" } : Jvm.MethodName)) ∈ p_G := inC_5 219 rfl rfl
theorem w_1180 : (Jvm.Cond.instanceMethod ({ cls := "DriverHost$Driver", name := "addToLog", desc := "(I)V" } : Jvm.MethodName)) ∈ p_G := inC_5 220 rfl rfl
theorem w_1181 : (Jvm.Cond.selects "DriverHost$Driver" ({ cls := "DriverHost$Driver", name := "addToLog", desc := "(I)V" } : Jvm.MethodName) ({ cls := "DriverHost$Driver", name := "addToLog", desc := "(I)V" } : Jvm.MethodName)) ∈ p_G := inC_5 221 rfl rfl
theorem w_1182 : (Jvm.Cond.code ({ cls := "DriverHost$Driver", name := "addToLog", desc := "(I)V" } : Jvm.MethodName) prog_4_method_9_code (2 : Nat) (Option.none : Option Jvm.ClassFile.FieldType)) ∈ p_G := inC_5 222 rfl rfl
theorem w_1183 : (Jvm.Cond.methodLink "DriverHost$World" (286 : Nat) ({ cls := "DriverHost$World", name := "snapshot", desc := "(LDriverHost$Driver;)V" } : Jvm.MethodName)) ∈ p_G := inC_5 223 rfl rfl
theorem w_1184 : (Jvm.Cond.methodLink "DriverHost$World" (164 : Nat) ({ cls := "DriverHost$World", name := "enqueue", desc := "(LDriverHost$Driver;LDriverHost$Request;I)V" } : Jvm.MethodName)) ∈ p_G := inC_5 224 rfl rfl
theorem w_1185 : (Jvm.Cond.methodLink "DriverHost$World" (100 : Nat) ({ cls := "DriverHost$World", name := "failLate", desc := "(LDriverHost$Driver;)V" } : Jvm.MethodName)) ∈ p_G := inC_5 225 rfl rfl
theorem w_1187 : (Jvm.Cond.instanceMethod ({ cls := "DriverHost$World", name := "failLate", desc := "(LDriverHost$Driver;)V" } : Jvm.MethodName)) ∈ p_G := inC_5 227 rfl rfl
theorem w_1188 : (Jvm.Cond.code ({ cls := "DriverHost$World", name := "failLate", desc := "(LDriverHost$Driver;)V" } : Jvm.MethodName) prog_12_method_11_code (5 : Nat) (Option.none : Option Jvm.ClassFile.FieldType)) ∈ p_G := inC_5 228 rfl rfl
theorem w_1189 : (Jvm.Cond.constant "DriverHost$World" (213 : Nat) (2147483647 : Int32)) ∈ p_G := inC_5 229 rfl rfl
theorem w_1190 : (Jvm.Cond.methodLink "DriverHost$World" (106 : Nat) ({ cls := "DriverHost$World", name := "begin", desc := "(LDriverHost$Driver;)V" } : Jvm.MethodName)) ∈ p_G := inC_5 230 rfl rfl
theorem w_1192 : (Jvm.Cond.instanceMethod ({ cls := "DriverHost$World", name := "begin", desc := "(LDriverHost$Driver;)V" } : Jvm.MethodName)) ∈ p_G := inC_5 232 rfl rfl
theorem w_1193 : (Jvm.Cond.code ({ cls := "DriverHost$World", name := "begin", desc := "(LDriverHost$Driver;)V" } : Jvm.MethodName) prog_12_method_12_code (4 : Nat) (Option.none : Option Jvm.ClassFile.FieldType)) ∈ p_G := inC_5 233 rfl rfl
theorem w_1194 : (Jvm.Cond.methodLink "DriverHost$World" (225 : Nat) ({ cls := "DriverHost$World", name := "nextOf", desc := "(LDriverHost$Driver;)I" } : Jvm.MethodName)) ∈ p_G := inC_5 234 rfl rfl
theorem w_1195 : (Jvm.Cond.instanceMethod ({ cls := "DriverHost$World", name := "nextOf", desc := "(LDriverHost$Driver;)I" } : Jvm.MethodName)) ∈ p_G := inC_5 235 rfl rfl
theorem w_1196 : (Jvm.Cond.selects "DriverHost$World" ({ cls := "DriverHost$World", name := "nextOf", desc := "(LDriverHost$Driver;)I" } : Jvm.MethodName) ({ cls := "DriverHost$World", name := "nextOf", desc := "(LDriverHost$Driver;)I" } : Jvm.MethodName)) ∈ p_G := inC_5 236 rfl rfl
theorem w_1197 : (Jvm.Cond.code ({ cls := "DriverHost$World", name := "nextOf", desc := "(LDriverHost$Driver;)I" } : Jvm.MethodName) prog_12_method_13_code (6 : Nat) (Option.some Jvm.ClassFile.FieldType.int)) ∈ p_G := inC_5 237 rfl rfl
theorem w_1198 : (Jvm.Cond.methodLink "DriverHost$World" (109 : Nat) ({ cls := "DriverHost$World", name := "work", desc := "(LDriverHost$Driver;LDriverHost$Request;)V" } : Jvm.MethodName)) ∈ p_G := inC_5 238 rfl rfl
theorem w_1200 : (Jvm.Cond.instanceMethod ({ cls := "DriverHost$World", name := "work", desc := "(LDriverHost$Driver;LDriverHost$Request;)V" } : Jvm.MethodName)) ∈ p_G := inC_6 0 rfl rfl
theorem w_1201 : (Jvm.Cond.code ({ cls := "DriverHost$World", name := "work", desc := "(LDriverHost$Driver;LDriverHost$Request;)V" } : Jvm.MethodName) prog_12_method_14_code (4 : Nat) (Option.none : Option Jvm.ClassFile.FieldType)) ∈ p_G := inC_6 1 rfl rfl
theorem w_1202 : (Jvm.Cond.methodLink "DriverHost$World" (244 : Nat) ({ cls := "DriverHost$Request", name := "takesCrash", desc := "(I)Z" } : Jvm.MethodName)) ∈ p_G := inC_6 2 rfl rfl
theorem w_1203 : (Jvm.Cond.instanceMethod ({ cls := "DriverHost$Request", name := "takesCrash", desc := "(I)Z" } : Jvm.MethodName)) ∈ p_G := inC_6 3 rfl rfl
theorem w_1204 : (Jvm.Cond.selects "DriverHost$Request" ({ cls := "DriverHost$Request", name := "takesCrash", desc := "(I)Z" } : Jvm.MethodName) ({ cls := "DriverHost$Request", name := "takesCrash", desc := "(I)Z" } : Jvm.MethodName)) ∈ p_G := inC_6 4 rfl rfl
theorem w_1205 : (Jvm.Cond.code ({ cls := "DriverHost$Request", name := "takesCrash", desc := "(I)Z" } : Jvm.MethodName) prog_9_method_6_code (2 : Nat) (Option.some Jvm.ClassFile.FieldType.boolean)) ∈ p_G := inC_6 5 rfl rfl
theorem w_1206 : (Jvm.Cond.methodLink "DriverHost$World" (248 : Nat) ({ cls := "DriverHost$World", name := "crash", desc := "(LDriverHost$Driver;)V" } : Jvm.MethodName)) ∈ p_G := inC_6 6 rfl rfl
theorem w_1207 : (Jvm.Cond.methodLink "DriverHost$World" (251 : Nat) ({ cls := "DriverHost$World", name := "doEffect", desc := "(LDriverHost$Driver;LDriverHost$Request;)I" } : Jvm.MethodName)) ∈ p_G := inC_6 7 rfl rfl
theorem w_1209 : (Jvm.Cond.instanceMethod ({ cls := "DriverHost$World", name := "doEffect", desc := "(LDriverHost$Driver;LDriverHost$Request;)I" } : Jvm.MethodName)) ∈ p_G := inC_6 9 rfl rfl
theorem w_1210 : (Jvm.Cond.code ({ cls := "DriverHost$World", name := "doEffect", desc := "(LDriverHost$Driver;LDriverHost$Request;)I" } : Jvm.MethodName) prog_12_method_15_code (5 : Nat) (Option.some Jvm.ClassFile.FieldType.int)) ∈ p_G := inC_6 10 rfl rfl
theorem w_1211 : (Jvm.Cond.methodLink "DriverHostLaw" (176 : Nat) ({ cls := "DriverHostLaw", name := "driverState", desc := "(LDriverHost;I[J)I" } : Jvm.MethodName)) ∈ p_G := inC_6 11 rfl rfl
theorem w_1212 : (Jvm.Cond.static ({ cls := "DriverHostLaw", name := "driverState", desc := "(LDriverHost;I[J)I" } : Jvm.MethodName)) ∈ p_G := inC_6 12 rfl rfl
theorem w_1213 : (Jvm.Cond.codeWith ({ cls := "DriverHostLaw", name := "driverState", desc := "(LDriverHost;I[J)I" } : Jvm.MethodName) method_14_code (4 : Nat) (Option.some Jvm.ClassFile.FieldType.int) [((0 : Nat), (9 : Nat), (12 : Nat), (18 : Nat))]) ∈ p_G := inC_6 13 rfl rfl
theorem w_1214 : (Jvm.Cond.methodLink "DriverHostLaw" (49 : Nat) ({ cls := "DriverHost", name := "driverState", desc := "(I)I" } : Jvm.MethodName)) ∈ p_G := inC_6 14 rfl rfl
theorem w_1215 : (Jvm.Cond.instanceMethod ({ cls := "DriverHost", name := "driverState", desc := "(I)I" } : Jvm.MethodName)) ∈ p_G := inC_6 15 rfl rfl
theorem w_1216 : (Jvm.Cond.selects "DriverHost" ({ cls := "DriverHost", name := "driverState", desc := "(I)I" } : Jvm.MethodName) ({ cls := "DriverHost", name := "driverState", desc := "(I)I" } : Jvm.MethodName)) ∈ p_G := inC_6 16 rfl rfl
theorem w_1217 : (Jvm.Cond.code ({ cls := "DriverHost", name := "driverState", desc := "(I)I" } : Jvm.MethodName) prog_1_method_20_code (2 : Nat) (Option.some Jvm.ClassFile.FieldType.int)) ∈ p_G := inC_6 17 rfl rfl
theorem w_1218 : (Jvm.Cond.methodLink "DriverHostLaw" (179 : Nat) ({ cls := "DriverHostLaw", name := "downUntil", desc := "(LDriverHost;I[J)I" } : Jvm.MethodName)) ∈ p_G := inC_6 18 rfl rfl
theorem w_1219 : (Jvm.Cond.static ({ cls := "DriverHostLaw", name := "downUntil", desc := "(LDriverHost;I[J)I" } : Jvm.MethodName)) ∈ p_G := inC_6 19 rfl rfl
theorem w_1220 : (Jvm.Cond.codeWith ({ cls := "DriverHostLaw", name := "downUntil", desc := "(LDriverHost;I[J)I" } : Jvm.MethodName) method_15_code (4 : Nat) (Option.some Jvm.ClassFile.FieldType.int) [((0 : Nat), (9 : Nat), (12 : Nat), (18 : Nat))]) ∈ p_G := inC_6 20 rfl rfl
theorem w_1221 : (Jvm.Cond.methodLink "DriverHostLaw" (52 : Nat) ({ cls := "DriverHost", name := "downUntil", desc := "(I)I" } : Jvm.MethodName)) ∈ p_G := inC_6 21 rfl rfl
theorem w_1222 : (Jvm.Cond.instanceMethod ({ cls := "DriverHost", name := "downUntil", desc := "(I)I" } : Jvm.MethodName)) ∈ p_G := inC_6 22 rfl rfl
theorem w_1223 : (Jvm.Cond.selects "DriverHost" ({ cls := "DriverHost", name := "downUntil", desc := "(I)I" } : Jvm.MethodName) ({ cls := "DriverHost", name := "downUntil", desc := "(I)I" } : Jvm.MethodName)) ∈ p_G := inC_6 23 rfl rfl
theorem w_1224 : (Jvm.Cond.code ({ cls := "DriverHost", name := "downUntil", desc := "(I)I" } : Jvm.MethodName) prog_1_method_21_code (3 : Nat) (Option.some Jvm.ClassFile.FieldType.int)) ∈ p_G := inC_6 24 rfl rfl
theorem w_1225 : (Jvm.Cond.methodLink "DriverHostLaw" (182 : Nat) ({ cls := "DriverHostLaw", name := "streak", desc := "(LDriverHost;I[J)I" } : Jvm.MethodName)) ∈ p_G := inC_6 25 rfl rfl
theorem w_1226 : (Jvm.Cond.static ({ cls := "DriverHostLaw", name := "streak", desc := "(LDriverHost;I[J)I" } : Jvm.MethodName)) ∈ p_G := inC_6 26 rfl rfl
theorem w_1227 : (Jvm.Cond.codeWith ({ cls := "DriverHostLaw", name := "streak", desc := "(LDriverHost;I[J)I" } : Jvm.MethodName) method_16_code (4 : Nat) (Option.some Jvm.ClassFile.FieldType.int) [((0 : Nat), (9 : Nat), (12 : Nat), (18 : Nat))]) ∈ p_G := inC_6 27 rfl rfl
theorem w_1228 : (Jvm.Cond.methodLink "DriverHostLaw" (55 : Nat) ({ cls := "DriverHost", name := "streak", desc := "(I)I" } : Jvm.MethodName)) ∈ p_G := inC_6 28 rfl rfl
theorem w_1229 : (Jvm.Cond.instanceMethod ({ cls := "DriverHost", name := "streak", desc := "(I)I" } : Jvm.MethodName)) ∈ p_G := inC_6 29 rfl rfl
theorem w_1230 : (Jvm.Cond.selects "DriverHost" ({ cls := "DriverHost", name := "streak", desc := "(I)I" } : Jvm.MethodName) ({ cls := "DriverHost", name := "streak", desc := "(I)I" } : Jvm.MethodName)) ∈ p_G := inC_6 30 rfl rfl
theorem w_1231 : (Jvm.Cond.code ({ cls := "DriverHost", name := "streak", desc := "(I)I" } : Jvm.MethodName) prog_1_method_22_code (2 : Nat) (Option.some Jvm.ClassFile.FieldType.int)) ∈ p_G := inC_6 31 rfl rfl
theorem w_1232 : (Jvm.Cond.methodLink "DriverHostLaw" (185 : Nat) ({ cls := "DriverHostLaw", name := "register", desc := "(LDriverHost;II[J)I" } : Jvm.MethodName)) ∈ p_G := inC_6 32 rfl rfl
theorem w_1233 : (Jvm.Cond.static ({ cls := "DriverHostLaw", name := "register", desc := "(LDriverHost;II[J)I" } : Jvm.MethodName)) ∈ p_G := inC_6 33 rfl rfl
theorem w_1234 : (Jvm.Cond.codeWith ({ cls := "DriverHostLaw", name := "register", desc := "(LDriverHost;II[J)I" } : Jvm.MethodName) method_17_code (5 : Nat) (Option.some Jvm.ClassFile.FieldType.int) [((0 : Nat), (10 : Nat), (13 : Nat), (18 : Nat))]) ∈ p_G := inC_6 34 rfl rfl
theorem w_1235 : (Jvm.Cond.methodLink "DriverHostLaw" (58 : Nat) ({ cls := "DriverHost", name := "register", desc := "(II)I" } : Jvm.MethodName)) ∈ p_G := inC_6 35 rfl rfl
theorem w_1236 : (Jvm.Cond.instanceMethod ({ cls := "DriverHost", name := "register", desc := "(II)I" } : Jvm.MethodName)) ∈ p_G := inC_6 36 rfl rfl
theorem w_1237 : (Jvm.Cond.selects "DriverHost" ({ cls := "DriverHost", name := "register", desc := "(II)I" } : Jvm.MethodName) ({ cls := "DriverHost", name := "register", desc := "(II)I" } : Jvm.MethodName)) ∈ p_G := inC_6 37 rfl rfl
theorem w_1238 : (Jvm.Cond.code ({ cls := "DriverHost", name := "register", desc := "(II)I" } : Jvm.MethodName) prog_1_method_23_code (3 : Nat) (Option.some Jvm.ClassFile.FieldType.int)) ∈ p_G := inC_6 38 rfl rfl
theorem w_1239 : (Jvm.Cond.methodLink "DriverHostLaw" (189 : Nat) ({ cls := "DriverHostLaw", name := "variable", desc := "(LDriverHost;II[J)I" } : Jvm.MethodName)) ∈ p_G := inC_6 39 rfl rfl
theorem w_1240 : (Jvm.Cond.static ({ cls := "DriverHostLaw", name := "variable", desc := "(LDriverHost;II[J)I" } : Jvm.MethodName)) ∈ p_G := inC_6 40 rfl rfl
theorem w_1241 : (Jvm.Cond.codeWith ({ cls := "DriverHostLaw", name := "variable", desc := "(LDriverHost;II[J)I" } : Jvm.MethodName) method_18_code (5 : Nat) (Option.some Jvm.ClassFile.FieldType.int) [((0 : Nat), (10 : Nat), (13 : Nat), (18 : Nat))]) ∈ p_G := inC_6 41 rfl rfl
theorem w_1242 : (Jvm.Cond.methodLink "DriverHostLaw" (62 : Nat) ({ cls := "DriverHost", name := "variable", desc := "(II)I" } : Jvm.MethodName)) ∈ p_G := inC_6 42 rfl rfl
theorem w_1243 : (Jvm.Cond.instanceMethod ({ cls := "DriverHost", name := "variable", desc := "(II)I" } : Jvm.MethodName)) ∈ p_G := inC_6 43 rfl rfl
theorem w_1244 : (Jvm.Cond.selects "DriverHost" ({ cls := "DriverHost", name := "variable", desc := "(II)I" } : Jvm.MethodName) ({ cls := "DriverHost", name := "variable", desc := "(II)I" } : Jvm.MethodName)) ∈ p_G := inC_6 44 rfl rfl
theorem w_1245 : (Jvm.Cond.code ({ cls := "DriverHost", name := "variable", desc := "(II)I" } : Jvm.MethodName) prog_1_method_24_code (3 : Nat) (Option.some Jvm.ClassFile.FieldType.int)) ∈ p_G := inC_6 45 rfl rfl
theorem w_1246 : (Jvm.Cond.methodLink "DriverHost" (220 : Nat) ({ cls := "DriverHost$Driver", name := "variableAt", desc := "(I)I" } : Jvm.MethodName)) ∈ p_G := inC_6 46 rfl rfl
theorem w_1247 : (Jvm.Cond.instanceMethod ({ cls := "DriverHost$Driver", name := "variableAt", desc := "(I)I" } : Jvm.MethodName)) ∈ p_G := inC_6 47 rfl rfl
theorem w_1248 : (Jvm.Cond.selects "DriverHost$Driver" ({ cls := "DriverHost$Driver", name := "variableAt", desc := "(I)I" } : Jvm.MethodName) ({ cls := "DriverHost$Driver", name := "variableAt", desc := "(I)I" } : Jvm.MethodName)) ∈ p_G := inC_6 48 rfl rfl
theorem w_1249 : (Jvm.Cond.code ({ cls := "DriverHost$Driver", name := "variableAt", desc := "(I)I" } : Jvm.MethodName) prog_4_method_4_code (2 : Nat) (Option.some Jvm.ClassFile.FieldType.int)) ∈ p_G := inC_6 49 rfl rfl
theorem w_1251 : (Jvm.Cond.methodLink "DriverHostLaw" (192 : Nat) ({ cls := "DriverHostLaw", name := "saved", desc := "(LDriverHost;II[J)I" } : Jvm.MethodName)) ∈ p_G := inC_6 51 rfl rfl
theorem w_1252 : (Jvm.Cond.static ({ cls := "DriverHostLaw", name := "saved", desc := "(LDriverHost;II[J)I" } : Jvm.MethodName)) ∈ p_G := inC_6 52 rfl rfl
theorem w_1253 : (Jvm.Cond.codeWith ({ cls := "DriverHostLaw", name := "saved", desc := "(LDriverHost;II[J)I" } : Jvm.MethodName) method_19_code (5 : Nat) (Option.some Jvm.ClassFile.FieldType.int) [((0 : Nat), (10 : Nat), (13 : Nat), (18 : Nat))]) ∈ p_G := inC_6 53 rfl rfl
theorem w_1254 : (Jvm.Cond.methodLink "DriverHostLaw" (65 : Nat) ({ cls := "DriverHost", name := "saved", desc := "(II)I" } : Jvm.MethodName)) ∈ p_G := inC_6 54 rfl rfl
theorem w_1255 : (Jvm.Cond.instanceMethod ({ cls := "DriverHost", name := "saved", desc := "(II)I" } : Jvm.MethodName)) ∈ p_G := inC_6 55 rfl rfl
theorem w_1256 : (Jvm.Cond.selects "DriverHost" ({ cls := "DriverHost", name := "saved", desc := "(II)I" } : Jvm.MethodName) ({ cls := "DriverHost", name := "saved", desc := "(II)I" } : Jvm.MethodName)) ∈ p_G := inC_6 56 rfl rfl
theorem w_1257 : (Jvm.Cond.code ({ cls := "DriverHost", name := "saved", desc := "(II)I" } : Jvm.MethodName) prog_1_method_25_code (3 : Nat) (Option.some Jvm.ClassFile.FieldType.int)) ∈ p_G := inC_6 57 rfl rfl
theorem w_1258 : (Jvm.Cond.methodLink "DriverHost" (223 : Nat) ({ cls := "DriverHost$Driver", name := "snapshotAt", desc := "(I)I" } : Jvm.MethodName)) ∈ p_G := inC_6 58 rfl rfl
theorem w_1259 : (Jvm.Cond.instanceMethod ({ cls := "DriverHost$Driver", name := "snapshotAt", desc := "(I)I" } : Jvm.MethodName)) ∈ p_G := inC_6 59 rfl rfl
theorem w_1260 : (Jvm.Cond.selects "DriverHost$Driver" ({ cls := "DriverHost$Driver", name := "snapshotAt", desc := "(I)I" } : Jvm.MethodName) ({ cls := "DriverHost$Driver", name := "snapshotAt", desc := "(I)I" } : Jvm.MethodName)) ∈ p_G := inC_6 60 rfl rfl
theorem w_1261 : (Jvm.Cond.code ({ cls := "DriverHost$Driver", name := "snapshotAt", desc := "(I)I" } : Jvm.MethodName) prog_4_method_5_code (2 : Nat) (Option.some Jvm.ClassFile.FieldType.int)) ∈ p_G := inC_6 61 rfl rfl
theorem w_1262 : (Jvm.Cond.methodLink "DriverHostLaw" (195 : Nat) ({ cls := "DriverHostLaw", name := "logSize", desc := "(LDriverHost;I[J)I" } : Jvm.MethodName)) ∈ p_G := inC_6 62 rfl rfl
theorem w_1263 : (Jvm.Cond.static ({ cls := "DriverHostLaw", name := "logSize", desc := "(LDriverHost;I[J)I" } : Jvm.MethodName)) ∈ p_G := inC_6 63 rfl rfl
theorem w_1264 : (Jvm.Cond.codeWith ({ cls := "DriverHostLaw", name := "logSize", desc := "(LDriverHost;I[J)I" } : Jvm.MethodName) method_20_code (4 : Nat) (Option.some Jvm.ClassFile.FieldType.int) [((0 : Nat), (9 : Nat), (12 : Nat), (18 : Nat))]) ∈ p_G := inC_6 64 rfl rfl
theorem w_1265 : (Jvm.Cond.methodLink "DriverHostLaw" (68 : Nat) ({ cls := "DriverHost", name := "logSize", desc := "(I)I" } : Jvm.MethodName)) ∈ p_G := inC_6 65 rfl rfl
theorem w_1266 : (Jvm.Cond.instanceMethod ({ cls := "DriverHost", name := "logSize", desc := "(I)I" } : Jvm.MethodName)) ∈ p_G := inC_6 66 rfl rfl
theorem w_1267 : (Jvm.Cond.selects "DriverHost" ({ cls := "DriverHost", name := "logSize", desc := "(I)I" } : Jvm.MethodName) ({ cls := "DriverHost", name := "logSize", desc := "(I)I" } : Jvm.MethodName)) ∈ p_G := inC_6 67 rfl rfl
theorem w_1268 : (Jvm.Cond.code ({ cls := "DriverHost", name := "logSize", desc := "(I)I" } : Jvm.MethodName) prog_1_method_26_code (2 : Nat) (Option.some Jvm.ClassFile.FieldType.int)) ∈ p_G := inC_6 68 rfl rfl
theorem w_1269 : (Jvm.Cond.methodLink "DriverHostLaw" (198 : Nat) ({ cls := "DriverHostLaw", name := "logged", desc := "(LDriverHost;II[J)I" } : Jvm.MethodName)) ∈ p_G := inC_6 69 rfl rfl
theorem w_1270 : (Jvm.Cond.static ({ cls := "DriverHostLaw", name := "logged", desc := "(LDriverHost;II[J)I" } : Jvm.MethodName)) ∈ p_G := inC_6 70 rfl rfl
theorem w_1271 : (Jvm.Cond.codeWith ({ cls := "DriverHostLaw", name := "logged", desc := "(LDriverHost;II[J)I" } : Jvm.MethodName) method_21_code (5 : Nat) (Option.some Jvm.ClassFile.FieldType.int) [((0 : Nat), (10 : Nat), (13 : Nat), (18 : Nat))]) ∈ p_G := inC_6 71 rfl rfl
theorem w_1272 : (Jvm.Cond.methodLink "DriverHostLaw" (71 : Nat) ({ cls := "DriverHost", name := "logged", desc := "(II)I" } : Jvm.MethodName)) ∈ p_G := inC_6 72 rfl rfl
theorem w_1273 : (Jvm.Cond.instanceMethod ({ cls := "DriverHost", name := "logged", desc := "(II)I" } : Jvm.MethodName)) ∈ p_G := inC_6 73 rfl rfl
theorem w_1274 : (Jvm.Cond.selects "DriverHost" ({ cls := "DriverHost", name := "logged", desc := "(II)I" } : Jvm.MethodName) ({ cls := "DriverHost", name := "logged", desc := "(II)I" } : Jvm.MethodName)) ∈ p_G := inC_6 74 rfl rfl
theorem w_1275 : (Jvm.Cond.code ({ cls := "DriverHost", name := "logged", desc := "(II)I" } : Jvm.MethodName) prog_1_method_27_code (4 : Nat) (Option.some Jvm.ClassFile.FieldType.int)) ∈ p_G := inC_6 75 rfl rfl
theorem w_1276 : (Jvm.Cond.classLink "DriverHost" (226 : Nat) "java/util/NoSuchElementException") ∈ p_G := inC_6 76 rfl rfl
theorem w_1279 : (Jvm.Cond.methodLink "DriverHost" (231 : Nat) ({ cls := "DriverHost$Driver", name := "logAt", desc := "(I)I" } : Jvm.MethodName)) ∈ p_G := inC_6 79 rfl rfl
theorem w_1280 : (Jvm.Cond.methodLink "DriverHostLaw" (201 : Nat) ({ cls := "DriverHostLaw", name := "inFlight", desc := "(LDriverHost;I[J)I" } : Jvm.MethodName)) ∈ p_G := inC_6 80 rfl rfl
theorem w_1281 : (Jvm.Cond.static ({ cls := "DriverHostLaw", name := "inFlight", desc := "(LDriverHost;I[J)I" } : Jvm.MethodName)) ∈ p_G := inC_6 81 rfl rfl
theorem w_1282 : (Jvm.Cond.codeWith ({ cls := "DriverHostLaw", name := "inFlight", desc := "(LDriverHost;I[J)I" } : Jvm.MethodName) method_22_code (4 : Nat) (Option.some Jvm.ClassFile.FieldType.int) [((0 : Nat), (9 : Nat), (12 : Nat), (18 : Nat))]) ∈ p_G := inC_6 82 rfl rfl
theorem w_1283 : (Jvm.Cond.methodLink "DriverHostLaw" (74 : Nat) ({ cls := "DriverHost", name := "inFlight", desc := "(I)I" } : Jvm.MethodName)) ∈ p_G := inC_6 83 rfl rfl
theorem w_1284 : (Jvm.Cond.instanceMethod ({ cls := "DriverHost", name := "inFlight", desc := "(I)I" } : Jvm.MethodName)) ∈ p_G := inC_6 84 rfl rfl
theorem w_1285 : (Jvm.Cond.selects "DriverHost" ({ cls := "DriverHost", name := "inFlight", desc := "(I)I" } : Jvm.MethodName) ({ cls := "DriverHost", name := "inFlight", desc := "(I)I" } : Jvm.MethodName)) ∈ p_G := inC_6 85 rfl rfl
theorem w_1286 : (Jvm.Cond.code ({ cls := "DriverHost", name := "inFlight", desc := "(I)I" } : Jvm.MethodName) prog_1_method_28_code (2 : Nat) (Option.some Jvm.ClassFile.FieldType.int)) ∈ p_G := inC_6 86 rfl rfl
theorem w_1287 : (Jvm.Cond.methodLink "DriverHostLaw" (204 : Nat) ({ cls := "DriverHostLaw", name := "nextRequest", desc := "(LDriverHost;I[J)I" } : Jvm.MethodName)) ∈ p_G := inC_6 87 rfl rfl
theorem w_1288 : (Jvm.Cond.static ({ cls := "DriverHostLaw", name := "nextRequest", desc := "(LDriverHost;I[J)I" } : Jvm.MethodName)) ∈ p_G := inC_6 88 rfl rfl
theorem w_1289 : (Jvm.Cond.codeWith ({ cls := "DriverHostLaw", name := "nextRequest", desc := "(LDriverHost;I[J)I" } : Jvm.MethodName) method_23_code (4 : Nat) (Option.some Jvm.ClassFile.FieldType.int) [((0 : Nat), (9 : Nat), (12 : Nat), (18 : Nat))]) ∈ p_G := inC_6 89 rfl rfl
theorem w_1290 : (Jvm.Cond.methodLink "DriverHostLaw" (77 : Nat) ({ cls := "DriverHost", name := "nextRequest", desc := "(I)I" } : Jvm.MethodName)) ∈ p_G := inC_6 90 rfl rfl
theorem w_1291 : (Jvm.Cond.instanceMethod ({ cls := "DriverHost", name := "nextRequest", desc := "(I)I" } : Jvm.MethodName)) ∈ p_G := inC_6 91 rfl rfl
theorem w_1292 : (Jvm.Cond.selects "DriverHost" ({ cls := "DriverHost", name := "nextRequest", desc := "(I)I" } : Jvm.MethodName) ({ cls := "DriverHost", name := "nextRequest", desc := "(I)I" } : Jvm.MethodName)) ∈ p_G := inC_6 92 rfl rfl
theorem w_1293 : (Jvm.Cond.code ({ cls := "DriverHost", name := "nextRequest", desc := "(I)I" } : Jvm.MethodName) prog_1_method_29_code (2 : Nat) (Option.some Jvm.ClassFile.FieldType.int)) ∈ p_G := inC_6 93 rfl rfl
theorem w_1294 : (Jvm.Cond.methodLink "DriverHost" (234 : Nat) ({ cls := "DriverHost$World", name := "nextOf", desc := "(LDriverHost$Driver;)I" } : Jvm.MethodName)) ∈ p_G := inC_6 94 rfl rfl
theorem w_1295 : (Jvm.Cond.methodLink "DriverHostLaw" (207 : Nat) ({ cls := "DriverHostLaw", name := "queued", desc := "(LDriverHost;I[J)I" } : Jvm.MethodName)) ∈ p_G := inC_6 95 rfl rfl
theorem w_1296 : (Jvm.Cond.static ({ cls := "DriverHostLaw", name := "queued", desc := "(LDriverHost;I[J)I" } : Jvm.MethodName)) ∈ p_G := inC_6 96 rfl rfl
theorem w_1297 : (Jvm.Cond.codeWith ({ cls := "DriverHostLaw", name := "queued", desc := "(LDriverHost;I[J)I" } : Jvm.MethodName) method_24_code (4 : Nat) (Option.some Jvm.ClassFile.FieldType.int) [((0 : Nat), (9 : Nat), (12 : Nat), (18 : Nat))]) ∈ p_G := inC_6 97 rfl rfl
theorem w_1298 : (Jvm.Cond.methodLink "DriverHostLaw" (80 : Nat) ({ cls := "DriverHost", name := "queued", desc := "(I)I" } : Jvm.MethodName)) ∈ p_G := inC_6 98 rfl rfl
theorem w_1299 : (Jvm.Cond.instanceMethod ({ cls := "DriverHost", name := "queued", desc := "(I)I" } : Jvm.MethodName)) ∈ p_G := inC_6 99 rfl rfl
theorem w_1300 : (Jvm.Cond.selects "DriverHost" ({ cls := "DriverHost", name := "queued", desc := "(I)I" } : Jvm.MethodName) ({ cls := "DriverHost", name := "queued", desc := "(I)I" } : Jvm.MethodName)) ∈ p_G := inC_6 100 rfl rfl
theorem w_1301 : (Jvm.Cond.code ({ cls := "DriverHost", name := "queued", desc := "(I)I" } : Jvm.MethodName) prog_1_method_30_code (2 : Nat) (Option.some Jvm.ClassFile.FieldType.int)) ∈ p_G := inC_6 101 rfl rfl
theorem w_1302 : (Jvm.Cond.methodLink "DriverHostLaw" (210 : Nat) ({ cls := "DriverHostLaw", name := "request", desc := "(LDriverHost;II[J)I" } : Jvm.MethodName)) ∈ p_G := inC_6 102 rfl rfl
theorem w_1303 : (Jvm.Cond.static ({ cls := "DriverHostLaw", name := "request", desc := "(LDriverHost;II[J)I" } : Jvm.MethodName)) ∈ p_G := inC_6 103 rfl rfl
theorem w_1304 : (Jvm.Cond.codeWith ({ cls := "DriverHostLaw", name := "request", desc := "(LDriverHost;II[J)I" } : Jvm.MethodName) method_25_code (5 : Nat) (Option.some Jvm.ClassFile.FieldType.int) [((0 : Nat), (10 : Nat), (13 : Nat), (18 : Nat))]) ∈ p_G := inC_6 104 rfl rfl
theorem w_1305 : (Jvm.Cond.methodLink "DriverHostLaw" (83 : Nat) ({ cls := "DriverHost", name := "request", desc := "(II)I" } : Jvm.MethodName)) ∈ p_G := inC_6 105 rfl rfl
theorem w_1306 : (Jvm.Cond.instanceMethod ({ cls := "DriverHost", name := "request", desc := "(II)I" } : Jvm.MethodName)) ∈ p_G := inC_6 106 rfl rfl
theorem w_1307 : (Jvm.Cond.selects "DriverHost" ({ cls := "DriverHost", name := "request", desc := "(II)I" } : Jvm.MethodName) ({ cls := "DriverHost", name := "request", desc := "(II)I" } : Jvm.MethodName)) ∈ p_G := inC_6 107 rfl rfl
theorem w_1308 : (Jvm.Cond.code ({ cls := "DriverHost", name := "request", desc := "(II)I" } : Jvm.MethodName) prog_1_method_31_code (3 : Nat) (Option.some Jvm.ClassFile.FieldType.int)) ∈ p_G := inC_6 108 rfl rfl
theorem w_1309 : (Jvm.Cond.methodLink "DriverHost" (241 : Nat) ({ cls := "DriverHost$Request", name := "valueOf", desc := "(I)I" } : Jvm.MethodName)) ∈ p_G := inC_6 109 rfl rfl
theorem w_1310 : (Jvm.Cond.instanceMethod ({ cls := "DriverHost$Request", name := "valueOf", desc := "(I)I" } : Jvm.MethodName)) ∈ p_G := inC_6 110 rfl rfl
theorem w_1311 : (Jvm.Cond.selects "DriverHost$Request" ({ cls := "DriverHost$Request", name := "valueOf", desc := "(I)I" } : Jvm.MethodName) ({ cls := "DriverHost$Request", name := "valueOf", desc := "(I)I" } : Jvm.MethodName)) ∈ p_G := inC_6 111 rfl rfl
theorem w_1312 : (Jvm.Cond.code ({ cls := "DriverHost$Request", name := "valueOf", desc := "(I)I" } : Jvm.MethodName) prog_9_method_8_code (2 : Nat) (Option.some Jvm.ClassFile.FieldType.int)) ∈ p_G := inC_6 112 rfl rfl
theorem w_1313 : (Jvm.Cond.classLink "DriverHost$Request" (61 : Nat) "java/util/NoSuchElementException") ∈ p_G := inC_6 113 rfl rfl
theorem w_1316 : (Jvm.Cond.methodLink "DriverHostLaw" (217 : Nat) ({ cls := "DriverHostLaw", name := "record", desc := "(LDriverHost;II[J)I" } : Jvm.MethodName)) ∈ p_G := inC_6 116 rfl rfl
theorem w_1317 : (Jvm.Cond.static ({ cls := "DriverHostLaw", name := "record", desc := "(LDriverHost;II[J)I" } : Jvm.MethodName)) ∈ p_G := inC_6 117 rfl rfl
theorem w_1318 : (Jvm.Cond.codeWith ({ cls := "DriverHostLaw", name := "record", desc := "(LDriverHost;II[J)I" } : Jvm.MethodName) method_26_code (5 : Nat) (Option.some Jvm.ClassFile.FieldType.int) [((0 : Nat), (10 : Nat), (13 : Nat), (18 : Nat))]) ∈ p_G := inC_6 118 rfl rfl
theorem w_1319 : (Jvm.Cond.methodLink "DriverHostLaw" (86 : Nat) ({ cls := "DriverHost", name := "record", desc := "(II)I" } : Jvm.MethodName)) ∈ p_G := inC_6 119 rfl rfl
theorem w_1320 : (Jvm.Cond.instanceMethod ({ cls := "DriverHost", name := "record", desc := "(II)I" } : Jvm.MethodName)) ∈ p_G := inC_6 120 rfl rfl
theorem w_1321 : (Jvm.Cond.selects "DriverHost" ({ cls := "DriverHost", name := "record", desc := "(II)I" } : Jvm.MethodName) ({ cls := "DriverHost", name := "record", desc := "(II)I" } : Jvm.MethodName)) ∈ p_G := inC_6 121 rfl rfl
theorem w_1322 : (Jvm.Cond.code ({ cls := "DriverHost", name := "record", desc := "(II)I" } : Jvm.MethodName) prog_1_method_33_code (3 : Nat) (Option.some Jvm.ClassFile.FieldType.int)) ∈ p_G := inC_6 122 rfl rfl
theorem w_1323 : (Jvm.Cond.methodLink "DriverHost" (253 : Nat) ({ cls := "DriverHost$Journal", name := "valueAt", desc := "(II)I" } : Jvm.MethodName)) ∈ p_G := inC_6 123 rfl rfl
theorem w_1324 : (Jvm.Cond.instanceMethod ({ cls := "DriverHost$Journal", name := "valueAt", desc := "(II)I" } : Jvm.MethodName)) ∈ p_G := inC_6 124 rfl rfl
theorem w_1325 : (Jvm.Cond.selects "DriverHost$Journal" ({ cls := "DriverHost$Journal", name := "valueAt", desc := "(II)I" } : Jvm.MethodName) ({ cls := "DriverHost$Journal", name := "valueAt", desc := "(II)I" } : Jvm.MethodName)) ∈ p_G := inC_6 125 rfl rfl
theorem w_1326 : (Jvm.Cond.code ({ cls := "DriverHost$Journal", name := "valueAt", desc := "(II)I" } : Jvm.MethodName) prog_6_method_4_code (4 : Nat) (Option.some Jvm.ClassFile.FieldType.int)) ∈ p_G := inC_6 126 rfl rfl
theorem w_1327 : (Jvm.Cond.classLink "DriverHost$Journal" (40 : Nat) "java/util/NoSuchElementException") ∈ p_G := inC_6 127 rfl rfl
theorem w_1331 : (Jvm.Cond.methodLink "DriverHostLaw" (224 : Nat) ({ cls := "DriverHostLaw", name := "availability", desc := "(LDriverHost;I[D)I" } : Jvm.MethodName)) ∈ p_G := inC_6 131 rfl rfl
theorem w_1332 : (Jvm.Cond.static ({ cls := "DriverHostLaw", name := "availability", desc := "(LDriverHost;I[D)I" } : Jvm.MethodName)) ∈ p_G := inC_6 132 rfl rfl
theorem w_1333 : (Jvm.Cond.codeWith ({ cls := "DriverHostLaw", name := "availability", desc := "(LDriverHost;I[D)I" } : Jvm.MethodName) method_27_code (4 : Nat) (Option.some Jvm.ClassFile.FieldType.int) [((0 : Nat), (8 : Nat), (11 : Nat), (18 : Nat))]) ∈ p_G := inC_6 133 rfl rfl
theorem w_1334 : (Jvm.Cond.methodLink "DriverHostLaw" (89 : Nat) ({ cls := "DriverHost", name := "availability", desc := "(I)D" } : Jvm.MethodName)) ∈ p_G := inC_6 134 rfl rfl
theorem w_1335 : (Jvm.Cond.instanceMethod ({ cls := "DriverHost", name := "availability", desc := "(I)D" } : Jvm.MethodName)) ∈ p_G := inC_6 135 rfl rfl
theorem w_1336 : (Jvm.Cond.selects "DriverHost" ({ cls := "DriverHost", name := "availability", desc := "(I)D" } : Jvm.MethodName) ({ cls := "DriverHost", name := "availability", desc := "(I)D" } : Jvm.MethodName)) ∈ p_G := inC_6 136 rfl rfl
theorem w_1337 : (Jvm.Cond.code ({ cls := "DriverHost", name := "availability", desc := "(I)D" } : Jvm.MethodName) prog_1_method_35_code (3 : Nat) (Option.some Jvm.ClassFile.FieldType.double)) ∈ p_G := inC_6 137 rfl rfl
theorem w_1338 : (Jvm.Cond.methodLink "DriverHostLaw" (228 : Nat) ({ cls := "DriverHostLaw", name := "meanTime", desc := "(LDriverHost;I[D)I" } : Jvm.MethodName)) ∈ p_G := inC_6 138 rfl rfl
theorem w_1339 : (Jvm.Cond.static ({ cls := "DriverHostLaw", name := "meanTime", desc := "(LDriverHost;I[D)I" } : Jvm.MethodName)) ∈ p_G := inC_6 139 rfl rfl
theorem w_1340 : (Jvm.Cond.codeWith ({ cls := "DriverHostLaw", name := "meanTime", desc := "(LDriverHost;I[D)I" } : Jvm.MethodName) method_28_code (4 : Nat) (Option.some Jvm.ClassFile.FieldType.int) [((0 : Nat), (9 : Nat), (12 : Nat), (18 : Nat))]) ∈ p_G := inC_6 140 rfl rfl
theorem w_1341 : (Jvm.Cond.methodLink "DriverHostLaw" (93 : Nat) ({ cls := "DriverHost", name := "meanTime", desc := "(I)F" } : Jvm.MethodName)) ∈ p_G := inC_6 141 rfl rfl
theorem w_1342 : (Jvm.Cond.instanceMethod ({ cls := "DriverHost", name := "meanTime", desc := "(I)F" } : Jvm.MethodName)) ∈ p_G := inC_6 142 rfl rfl
theorem w_1343 : (Jvm.Cond.selects "DriverHost" ({ cls := "DriverHost", name := "meanTime", desc := "(I)F" } : Jvm.MethodName) ({ cls := "DriverHost", name := "meanTime", desc := "(I)F" } : Jvm.MethodName)) ∈ p_G := inC_6 143 rfl rfl
theorem w_1344 : (Jvm.Cond.code ({ cls := "DriverHost", name := "meanTime", desc := "(I)F" } : Jvm.MethodName) prog_1_method_36_code (3 : Nat) (Option.some Jvm.ClassFile.FieldType.float)) ∈ p_G := inC_6 144 rfl rfl
theorem w_1345 : (Jvm.Cond.methodLink "DriverHostLaw" (231 : Nat) ({ cls := "DriverHostLaw", name := "forecast", desc := "(LDriverHost;I[J)I" } : Jvm.MethodName)) ∈ p_G := inC_6 145 rfl rfl
theorem w_1346 : (Jvm.Cond.static ({ cls := "DriverHostLaw", name := "forecast", desc := "(LDriverHost;I[J)I" } : Jvm.MethodName)) ∈ p_G := inC_6 146 rfl rfl
theorem w_1347 : (Jvm.Cond.codeWith ({ cls := "DriverHostLaw", name := "forecast", desc := "(LDriverHost;I[J)I" } : Jvm.MethodName) method_29_code (4 : Nat) (Option.some Jvm.ClassFile.FieldType.int) [((0 : Nat), (9 : Nat), (12 : Nat), (18 : Nat))]) ∈ p_G := inC_6 147 rfl rfl
theorem w_1348 : (Jvm.Cond.methodLink "DriverHostLaw" (97 : Nat) ({ cls := "DriverHost", name := "forecast", desc := "(I)I" } : Jvm.MethodName)) ∈ p_G := inC_6 148 rfl rfl
theorem w_1349 : (Jvm.Cond.instanceMethod ({ cls := "DriverHost", name := "forecast", desc := "(I)I" } : Jvm.MethodName)) ∈ p_G := inC_6 149 rfl rfl
theorem w_1350 : (Jvm.Cond.selects "DriverHost" ({ cls := "DriverHost", name := "forecast", desc := "(I)I" } : Jvm.MethodName) ({ cls := "DriverHost", name := "forecast", desc := "(I)I" } : Jvm.MethodName)) ∈ p_G := inC_6 150 rfl rfl
theorem w_1351 : (Jvm.Cond.code ({ cls := "DriverHost", name := "forecast", desc := "(I)I" } : Jvm.MethodName) prog_1_method_37_code (5 : Nat) (Option.some Jvm.ClassFile.FieldType.int)) ∈ p_G := inC_6 151 rfl rfl
theorem w_1352 : (Jvm.Cond.methodLink "DriverHost" (269 : Nat) ({ cls := "DriverHost", name := "freshTrial", desc := "()LDriverHost$World;" } : Jvm.MethodName)) ∈ p_G := inC_6 152 rfl rfl
theorem w_1354 : (Jvm.Cond.instanceMethod ({ cls := "DriverHost", name := "freshTrial", desc := "()LDriverHost$World;" } : Jvm.MethodName)) ∈ p_G := inC_6 154 rfl rfl
theorem w_1355 : (Jvm.Cond.code ({ cls := "DriverHost", name := "freshTrial", desc := "()LDriverHost$World;" } : Jvm.MethodName) prog_1_method_39_code (1 : Nat) (Option.some (Jvm.ClassFile.FieldType.object "DriverHost$World"))) ∈ p_G := inC_6 155 rfl rfl
theorem w_1356 : (Jvm.Cond.methodLink "DriverHostLaw" (234 : Nat) ({ cls := "DriverHostLaw", name := "bestDelay", desc := "(LDriverHost;I[J)I" } : Jvm.MethodName)) ∈ p_G := inC_6 156 rfl rfl
theorem w_1357 : (Jvm.Cond.static ({ cls := "DriverHostLaw", name := "bestDelay", desc := "(LDriverHost;I[J)I" } : Jvm.MethodName)) ∈ p_G := inC_6 157 rfl rfl
theorem w_1358 : (Jvm.Cond.codeWith ({ cls := "DriverHostLaw", name := "bestDelay", desc := "(LDriverHost;I[J)I" } : Jvm.MethodName) method_30_code (4 : Nat) (Option.some Jvm.ClassFile.FieldType.int) [((0 : Nat), (9 : Nat), (12 : Nat), (13 : Nat))]) ∈ p_G := inC_6 158 rfl rfl
theorem w_1359 : (Jvm.Cond.methodLink "DriverHostLaw" (100 : Nat) ({ cls := "DriverHost", name := "bestDelay", desc := "(I)I" } : Jvm.MethodName)) ∈ p_G := inC_6 159 rfl rfl
theorem w_1360 : (Jvm.Cond.instanceMethod ({ cls := "DriverHost", name := "bestDelay", desc := "(I)I" } : Jvm.MethodName)) ∈ p_G := inC_6 160 rfl rfl
theorem w_1361 : (Jvm.Cond.selects "DriverHost" ({ cls := "DriverHost", name := "bestDelay", desc := "(I)I" } : Jvm.MethodName) ({ cls := "DriverHost", name := "bestDelay", desc := "(I)I" } : Jvm.MethodName)) ∈ p_G := inC_6 161 rfl rfl
theorem w_1362 : (Jvm.Cond.code ({ cls := "DriverHost", name := "bestDelay", desc := "(I)I" } : Jvm.MethodName) prog_1_method_38_code (7 : Nat) (Option.some Jvm.ClassFile.FieldType.int)) ∈ p_G := inC_6 162 rfl rfl
theorem w_1363 : (Jvm.Cond.methodLink "DriverHost" (276 : Nat) ({ cls := "java/lang/Math", name := "min", desc := "(II)I" } : Jvm.MethodName)) ∈ p_G := inC_6 163 rfl rfl
theorem w_1364 : (Jvm.Cond.methodLink "DriverHostLaw" (237 : Nat) ({ cls := "DriverHostLaw", name := "decision", desc := "(LDriverHost;I[J)I" } : Jvm.MethodName)) ∈ p_G := inC_6 164 rfl rfl
theorem w_1365 : (Jvm.Cond.static ({ cls := "DriverHostLaw", name := "decision", desc := "(LDriverHost;I[J)I" } : Jvm.MethodName)) ∈ p_G := inC_6 165 rfl rfl
theorem w_1366 : (Jvm.Cond.codeWith ({ cls := "DriverHostLaw", name := "decision", desc := "(LDriverHost;I[J)I" } : Jvm.MethodName) method_31_code (4 : Nat) (Option.some Jvm.ClassFile.FieldType.int) [((0 : Nat), (9 : Nat), (12 : Nat), (18 : Nat))]) ∈ p_G := inC_6 166 rfl rfl
theorem w_1367 : (Jvm.Cond.methodLink "DriverHostLaw" (103 : Nat) ({ cls := "DriverHost", name := "decision", desc := "(I)I" } : Jvm.MethodName)) ∈ p_G := inC_6 167 rfl rfl
theorem w_1368 : (Jvm.Cond.instanceMethod ({ cls := "DriverHost", name := "decision", desc := "(I)I" } : Jvm.MethodName)) ∈ p_G := inC_6 168 rfl rfl
theorem w_1369 : (Jvm.Cond.selects "DriverHost" ({ cls := "DriverHost", name := "decision", desc := "(I)I" } : Jvm.MethodName) ({ cls := "DriverHost", name := "decision", desc := "(I)I" } : Jvm.MethodName)) ∈ p_G := inC_6 169 rfl rfl
theorem w_1370 : (Jvm.Cond.code ({ cls := "DriverHost", name := "decision", desc := "(I)I" } : Jvm.MethodName) prog_1_method_40_code (3 : Nat) (Option.some Jvm.ClassFile.FieldType.int)) ∈ p_G := inC_6 170 rfl rfl
theorem w_1371 : (Jvm.Cond.methodLink "DriverHost" (287 : Nat) ({ cls := "DriverHost$World", name := "decide", desc := "(LDriverHost$Request;)I" } : Jvm.MethodName)) ∈ p_G := inC_6 171 rfl rfl
theorem w_1372 : (Jvm.Cond.methodLink "DriverHostLaw" (257 : Nat) ({ cls := "DriverHostLaw", name := "query", desc := "(LDriverHost;I[J)I" } : Jvm.MethodName)) ∈ p_G := inC_6 172 rfl rfl
theorem w_1373 : (Jvm.Cond.static ({ cls := "DriverHostLaw", name := "query", desc := "(LDriverHost;I[J)I" } : Jvm.MethodName)) ∈ p_G := inC_6 173 rfl rfl
theorem w_1374 : (Jvm.Cond.codeWith ({ cls := "DriverHostLaw", name := "query", desc := "(LDriverHost;I[J)I" } : Jvm.MethodName) method_32_code (4 : Nat) (Option.some Jvm.ClassFile.FieldType.int) [((0 : Nat), (9 : Nat), (12 : Nat), (13 : Nat))]) ∈ p_G := inC_6 174 rfl rfl
theorem w_1375 : (Jvm.Cond.methodLink "DriverHostLaw" (106 : Nat) ({ cls := "DriverHost", name := "query", desc := "(I)I" } : Jvm.MethodName)) ∈ p_G := inC_6 175 rfl rfl
theorem w_1376 : (Jvm.Cond.instanceMethod ({ cls := "DriverHost", name := "query", desc := "(I)I" } : Jvm.MethodName)) ∈ p_G := inC_6 176 rfl rfl
theorem w_1377 : (Jvm.Cond.selects "DriverHost" ({ cls := "DriverHost", name := "query", desc := "(I)I" } : Jvm.MethodName) ({ cls := "DriverHost", name := "query", desc := "(I)I" } : Jvm.MethodName)) ∈ p_G := inC_6 177 rfl rfl
theorem w_1378 : (Jvm.Cond.code ({ cls := "DriverHost", name := "query", desc := "(I)I" } : Jvm.MethodName) prog_1_method_45_code (3 : Nat) (Option.some Jvm.ClassFile.FieldType.int)) ∈ p_G := inC_6 178 rfl rfl
theorem w_1379 : (Jvm.Cond.methodLink "DriverHost" (298 : Nat) ({ cls := "DriverHost$Reader", name := "readQuery", desc := "()V" } : Jvm.MethodName)) ∈ p_G := inC_6 179 rfl rfl
theorem w_1380 : (Jvm.Cond.instanceMethod ({ cls := "DriverHost$Reader", name := "readQuery", desc := "()V" } : Jvm.MethodName)) ∈ p_G := inC_6 180 rfl rfl
theorem w_1381 : (Jvm.Cond.selects "DriverHost$Reader" ({ cls := "DriverHost$Reader", name := "readQuery", desc := "()V" } : Jvm.MethodName) ({ cls := "DriverHost$Reader", name := "readQuery", desc := "()V" } : Jvm.MethodName)) ∈ p_G := inC_6 181 rfl rfl
theorem w_1382 : (Jvm.Cond.code ({ cls := "DriverHost$Reader", name := "readQuery", desc := "()V" } : Jvm.MethodName) prog_8_method_3_code (1 : Nat) (Option.none : Option Jvm.ClassFile.FieldType)) ∈ p_G := inC_6 182 rfl rfl
theorem w_1383 : (Jvm.Cond.fieldLink "DriverHost$Reader" (79 : Nat) "DriverHost$Word" "FIRST" "LDriverHost$Word;") ∈ p_G := inC_6 183 rfl rfl
theorem w_1385 : (Jvm.Cond.fieldLink "DriverHost$Reader" (86 : Nat) "DriverHost$Word" "MANY" "LDriverHost$Word;") ∈ p_G := inC_6 185 rfl rfl
theorem w_1387 : (Jvm.Cond.constant "DriverHost" (301 : Nat) (-1000000000 : Int32)) ∈ p_G := inC_6 187 rfl rfl
theorem w_1388 : (Jvm.Cond.methodLink "DriverHost" (309 : Nat) ({ cls := "DriverHost", name := "firstMatch", desc := "(LDriverHost$Code;)I" } : Jvm.MethodName)) ∈ p_G := inC_6 188 rfl rfl
theorem w_1390 : (Jvm.Cond.instanceMethod ({ cls := "DriverHost", name := "firstMatch", desc := "(LDriverHost$Code;)I" } : Jvm.MethodName)) ∈ p_G := inC_6 190 rfl rfl
theorem w_1391 : (Jvm.Cond.code ({ cls := "DriverHost", name := "firstMatch", desc := "(LDriverHost$Code;)I" } : Jvm.MethodName) prog_1_method_47_code (4 : Nat) (Option.some Jvm.ClassFile.FieldType.int)) ∈ p_G := inC_6 191 rfl rfl
theorem w_1392 : (Jvm.Cond.methodLink "DriverHost" (316 : Nat) ({ cls := "DriverHost$World", name := "matches", desc := "(ILDriverHost$Code;[I)Z" } : Jvm.MethodName)) ∈ p_G := inC_6 192 rfl rfl
theorem w_1393 : (Jvm.Cond.instanceMethod ({ cls := "DriverHost$World", name := "matches", desc := "(ILDriverHost$Code;[I)Z" } : Jvm.MethodName)) ∈ p_G := inC_6 193 rfl rfl
theorem w_1394 : (Jvm.Cond.selects "DriverHost$World" ({ cls := "DriverHost$World", name := "matches", desc := "(ILDriverHost$Code;[I)Z" } : Jvm.MethodName) ({ cls := "DriverHost$World", name := "matches", desc := "(ILDriverHost$Code;[I)Z" } : Jvm.MethodName)) ∈ p_G := inC_6 194 rfl rfl
theorem w_1395 : (Jvm.Cond.code ({ cls := "DriverHost$World", name := "matches", desc := "(ILDriverHost$Code;[I)Z" } : Jvm.MethodName) prog_12_method_27_code (7 : Nat) (Option.some Jvm.ClassFile.FieldType.boolean)) ∈ p_G := inC_6 195 rfl rfl
theorem w_1396 : (Jvm.Cond.methodLink "DriverHost$World" (326 : Nat) ({ cls := "DriverHost$Request", name := "propertyOf", desc := "(II)I" } : Jvm.MethodName)) ∈ p_G := inC_6 196 rfl rfl
theorem w_1397 : (Jvm.Cond.instanceMethod ({ cls := "DriverHost$Request", name := "propertyOf", desc := "(II)I" } : Jvm.MethodName)) ∈ p_G := inC_6 197 rfl rfl
theorem w_1398 : (Jvm.Cond.selects "DriverHost$Request" ({ cls := "DriverHost$Request", name := "propertyOf", desc := "(II)I" } : Jvm.MethodName) ({ cls := "DriverHost$Request", name := "propertyOf", desc := "(II)I" } : Jvm.MethodName)) ∈ p_G := inC_6 198 rfl rfl
theorem w_1399 : (Jvm.Cond.code ({ cls := "DriverHost$Request", name := "propertyOf", desc := "(II)I" } : Jvm.MethodName) prog_9_method_9_code (3 : Nat) (Option.some Jvm.ClassFile.FieldType.int)) ∈ p_G := inC_6 199 rfl rfl
theorem w_1400 : (Jvm.Cond.methodLink "DriverHost" (313 : Nat) ({ cls := "DriverHost", name := "countMatches", desc := "(LDriverHost$Code;)I" } : Jvm.MethodName)) ∈ p_G := inC_6 200 rfl rfl
theorem w_1402 : (Jvm.Cond.instanceMethod ({ cls := "DriverHost", name := "countMatches", desc := "(LDriverHost$Code;)I" } : Jvm.MethodName)) ∈ p_G := inC_6 202 rfl rfl
theorem w_1403 : (Jvm.Cond.code ({ cls := "DriverHost", name := "countMatches", desc := "(LDriverHost$Code;)I" } : Jvm.MethodName) prog_1_method_46_code (5 : Nat) (Option.some Jvm.ClassFile.FieldType.int)) ∈ p_G := inC_6 203 rfl rfl
theorem w_1404 : (Jvm.Cond.classLink "DriverHostLaw" (110 : Nat) "DriverHostModel") ∈ p_G := inC_6 204 rfl rfl
theorem w_1405 : (Jvm.Cond.instantiable "DriverHostModel" (37 : Nat)) ∈ p_G := inC_6 205 rfl rfl
theorem w_1406 : (Jvm.Cond.methodLink "DriverHostLaw" (112 : Nat) ({ cls := "DriverHostModel", name := "<init>", desc := "()V" } : Jvm.MethodName)) ∈ p_G := inC_6 206 rfl rfl
theorem w_1407 : (Jvm.Cond.instanceMethod ({ cls := "DriverHostModel", name := "<init>", desc := "()V" } : Jvm.MethodName)) ∈ p_G := inC_6 207 rfl rfl
theorem w_1408 : (Jvm.Cond.code ({ cls := "DriverHostModel", name := "<init>", desc := "()V" } : Jvm.MethodName) prog_14_method_1_code (1 : Nat) (Option.none : Option Jvm.ClassFile.FieldType)) ∈ p_G := inC_6 208 rfl rfl
theorem w_1409 : (Jvm.Cond.methodLink "DriverHostModel" (1 : Nat) ({ cls := "java/lang/Object", name := "<init>", desc := "()V" } : Jvm.MethodName)) ∈ p_G := inC_6 209 rfl rfl
theorem w_1410 : (Jvm.Cond.methodLink "DriverHostModel" (71 : Nat) ({ cls := "DriverHostModel", name := "standard", desc := "()V" } : Jvm.MethodName)) ∈ p_G := inC_6 210 rfl rfl
theorem w_1412 : (Jvm.Cond.instanceMethod ({ cls := "DriverHostModel", name := "standard", desc := "()V" } : Jvm.MethodName)) ∈ p_G := inC_6 212 rfl rfl
theorem w_1413 : (Jvm.Cond.code ({ cls := "DriverHostModel", name := "standard", desc := "()V" } : Jvm.MethodName) prog_14_method_6_code (2 : Nat) (Option.none : Option Jvm.ClassFile.FieldType)) ∈ p_G := inC_6 213 rfl rfl
theorem w_1414 : (Jvm.Cond.methodLink "DriverHostModel" (74 : Nat) ({ cls := "DriverHostModel", name := "takesOver", desc := "()V" } : Jvm.MethodName)) ∈ p_G := inC_6 214 rfl rfl
theorem w_1416 : (Jvm.Cond.instanceMethod ({ cls := "DriverHostModel", name := "takesOver", desc := "()V" } : Jvm.MethodName)) ∈ p_G := inC_6 216 rfl rfl
theorem w_1417 : (Jvm.Cond.code ({ cls := "DriverHostModel", name := "takesOver", desc := "()V" } : Jvm.MethodName) prog_14_method_8_code (2 : Nat) (Option.none : Option Jvm.ClassFile.FieldType)) ∈ p_G := inC_6 217 rfl rfl
theorem w_1418 : (Jvm.Cond.methodLink "DriverHostModel" (80 : Nat) ({ cls := "DriverHostModel", name := "shifts", desc := "([I)V" } : Jvm.MethodName)) ∈ p_G := inC_6 218 rfl rfl
theorem w_1419 : (Jvm.Cond.static ({ cls := "DriverHostModel", name := "shifts", desc := "([I)V" } : Jvm.MethodName)) ∈ p_G := inC_6 219 rfl rfl
theorem w_1420 : (Jvm.Cond.code ({ cls := "DriverHostModel", name := "shifts", desc := "([I)V" } : Jvm.MethodName) prog_14_method_7_code (3 : Nat) (Option.none : Option Jvm.ClassFile.FieldType)) ∈ p_G := inC_6 220 rfl rfl
theorem w_1421 : (Jvm.Cond.fieldLink "DriverHostModel" (77 : Nat) "DriverHostModel" "thrown" "I") ∈ p_G := inC_6 221 rfl rfl
theorem w_1422 : (Jvm.Cond.fieldLink "DriverHostModel" (7 : Nat) "DriverHostModel" "whole" "[I") ∈ p_G := inC_6 222 rfl rfl
theorem w_1423 : (Jvm.Cond.fieldLink "DriverHostModel" (13 : Nat) "DriverHostModel" "kinds" "[I") ∈ p_G := inC_6 223 rfl rfl
theorem w_1424 : (Jvm.Cond.fieldLink "DriverHostModel" (16 : Nat) "DriverHostModel" "times" "[I") ∈ p_G := inC_6 224 rfl rfl
theorem w_1425 : (Jvm.Cond.fieldLink "DriverHostModel" (19 : Nat) "DriverHostModel" "testTo" "[I") ∈ p_G := inC_6 225 rfl rfl
theorem w_1426 : (Jvm.Cond.fieldLink "DriverHostModel" (22 : Nat) "DriverHostModel" "resultTo" "[I") ∈ p_G := inC_6 226 rfl rfl
theorem w_1427 : (Jvm.Cond.fieldLink "DriverHostModel" (25 : Nat) "DriverHostModel" "setsTo" "[I") ∈ p_G := inC_6 227 rfl rfl
theorem w_1428 : (Jvm.Cond.fieldLink "DriverHostModel" (28 : Nat) "DriverHostModel" "keepsTo" "[I") ∈ p_G := inC_6 228 rfl rfl
theorem w_1429 : (Jvm.Cond.fieldLink "DriverHostModel" (31 : Nat) "DriverHostModel" "testFrom" "[I") ∈ p_G := inC_6 229 rfl rfl
theorem w_1430 : (Jvm.Cond.fieldLink "DriverHostModel" (34 : Nat) "DriverHostModel" "codes" "[I") ∈ p_G := inC_6 230 rfl rfl
theorem w_1431 : (Jvm.Cond.fieldLink "DriverHostModel" (37 : Nat) "DriverHostModel" "nameAt" "[I") ∈ p_G := inC_6 231 rfl rfl
theorem w_1432 : (Jvm.Cond.fieldLink "DriverHostModel" (40 : Nat) "DriverHostModel" "nameLong" "[I") ∈ p_G := inC_6 232 rfl rfl
theorem w_1433 : (Jvm.Cond.fieldLink "DriverHostModel" (43 : Nat) "DriverHostModel" "now" "[I") ∈ p_G := inC_6 233 rfl rfl
theorem w_1434 : (Jvm.Cond.fieldLink "DriverHostModel" (46 : Nat) "DriverHostModel" "then" "[I") ∈ p_G := inC_6 234 rfl rfl
theorem w_1435 : (Jvm.Cond.fieldLink "DriverHostModel" (49 : Nat) "DriverHostModel" "kept" "[I") ∈ p_G := inC_6 235 rfl rfl
theorem w_1436 : (Jvm.Cond.fieldLink "DriverHostModel" (52 : Nat) "DriverHostModel" "history" "[I") ∈ p_G := inC_6 236 rfl rfl
theorem w_1437 : (Jvm.Cond.fieldLink "DriverHostModel" (87 : Nat) "DriverHostModel" "isKept" "Z") ∈ p_G := inC_6 237 rfl rfl
theorem w_1438 : (Jvm.Cond.fieldLink "DriverHostModel" (84 : Nat) "DriverHostModel" "recorded" "I") ∈ p_G := inC_6 238 rfl rfl
theorem w_1439 : (Jvm.Cond.fieldLink "DriverHostModel" (55 : Nat) "DriverHostModel" "buffer" "[I") ∈ p_G := inC_6 239 rfl rfl
theorem w_1440 : (Jvm.Cond.fieldLink "DriverHostModel" (91 : Nat) "DriverHostModel" "buffered" "I") ∈ p_G := inC_7 0 rfl rfl
theorem w_1441 : (Jvm.Cond.fieldLink "DriverHostModel" (98 : Nat) "DriverHostModel" "textEnd" "I") ∈ p_G := inC_7 1 rfl rfl
theorem w_1442 : (Jvm.Cond.fieldLink "DriverHostModel" (105 : Nat) "DriverHostModel" "at" "I") ∈ p_G := inC_7 2 rfl rfl
theorem w_1443 : (Jvm.Cond.fieldLink "DriverHostModel" (116 : Nat) "DriverHostModel" "begin" "I") ∈ p_G := inC_7 3 rfl rfl
theorem w_1444 : (Jvm.Cond.fieldLink "DriverHostModel" (123 : Nat) "DriverHostModel" "kind" "I") ∈ p_G := inC_7 4 rfl rfl
theorem w_1445 : (Jvm.Cond.fieldLink "DriverHostModel" (126 : Nat) "DriverHostModel" "told" "I") ∈ p_G := inC_7 5 rfl rfl
theorem w_1446 : (Jvm.Cond.fieldLink "DriverHostModel" (101 : Nat) "DriverHostModel" "word" "J") ∈ p_G := inC_7 6 rfl rfl
theorem w_1447 : (Jvm.Cond.fieldLink "DriverHostModel" (140 : Nat) "DriverHostModel" "wrong" "I") ∈ p_G := inC_7 7 rfl rfl
theorem w_1448 : (Jvm.Cond.fieldLink "DriverHostModel" (58 : Nat) "DriverHostModel" "wrongAt" "I") ∈ p_G := inC_7 8 rfl rfl
theorem w_1449 : (Jvm.Cond.fieldLink "DriverHostModel" (62 : Nat) "DriverHostModel" "wait" "[I") ∈ p_G := inC_7 9 rfl rfl
theorem w_1450 : (Jvm.Cond.fieldLink "DriverHostModel" (65 : Nat) "DriverHostModel" "stack" "[I") ∈ p_G := inC_7 10 rfl rfl
theorem w_1451 : (Jvm.Cond.fieldLink "DriverHostModel" (68 : Nat) "DriverHostModel" "asked" "[I") ∈ p_G := inC_7 11 rfl rfl
theorem w_1452 : (Jvm.Cond.fieldLink "DriverHostModel" (256 : Nat) "DriverHostModel" "coded" "I") ∈ p_G := inC_7 12 rfl rfl
theorem w_1453 : (Jvm.Cond.fieldLink "DriverHostModel" (262 : Nat) "DriverHostModel" "waits" "I") ∈ p_G := inC_7 13 rfl rfl
theorem w_1454 : (Jvm.Cond.fieldLink "DriverHostModel" (259 : Nat) "DriverHostModel" "open" "I") ∈ p_G := inC_7 14 rfl rfl
theorem w_1455 : (Jvm.Cond.fieldLink "DriverHostModel" (273 : Nat) "DriverHostModel" "place" "I") ∈ p_G := inC_7 15 rfl rfl
theorem w_1456 : (Jvm.Cond.fieldLink "DriverHostModel" (253 : Nat) "DriverHostModel" "isAsked" "Z") ∈ p_G := inC_7 16 rfl rfl
theorem w_1457 : (Jvm.Cond.fieldLink "DriverHostModel" (354 : Nat) "DriverHostModel" "top" "I") ∈ p_G := inC_7 17 rfl rfl
theorem w_1533 : (Jvm.Cond.methodLink "DriverHostLaw" (116 : Nat) ({ cls := "DriverHostModel", name := "feed", desc := "(IIIII)I" } : Jvm.MethodName)) ∈ p_G := inC_7 93 rfl rfl
theorem w_1534 : (Jvm.Cond.instanceMethod ({ cls := "DriverHostModel", name := "feed", desc := "(IIIII)I" } : Jvm.MethodName)) ∈ p_G := inC_7 94 rfl rfl
theorem w_1535 : (Jvm.Cond.selects "DriverHostModel" ({ cls := "DriverHostModel", name := "feed", desc := "(IIIII)I" } : Jvm.MethodName) ({ cls := "DriverHostModel", name := "feed", desc := "(IIIII)I" } : Jvm.MethodName)) ∈ p_G := inC_7 95 rfl rfl
theorem w_1536 : (Jvm.Cond.code ({ cls := "DriverHostModel", name := "feed", desc := "(IIIII)I" } : Jvm.MethodName) prog_14_method_11_code (6 : Nat) (Option.some Jvm.ClassFile.FieldType.int)) ∈ p_G := inC_7 96 rfl rfl
theorem w_1537 : (Jvm.Cond.methodLink "DriverHostModel" (94 : Nat) ({ cls := "DriverHostModel", name := "lays", desc := "(I)V" } : Jvm.MethodName)) ∈ p_G := inC_7 97 rfl rfl
theorem w_1539 : (Jvm.Cond.instanceMethod ({ cls := "DriverHostModel", name := "lays", desc := "(I)V" } : Jvm.MethodName)) ∈ p_G := inC_7 99 rfl rfl
theorem w_1540 : (Jvm.Cond.code ({ cls := "DriverHostModel", name := "lays", desc := "(I)V" } : Jvm.MethodName) prog_14_method_10_code (3 : Nat) (Option.none : Option Jvm.ClassFile.FieldType)) ∈ p_G := inC_7 100 rfl rfl
theorem w_1541 : (Jvm.Cond.methodLink "DriverHostLaw" (127 : Nat) ({ cls := "DriverHostModel", name := "errorPosition", desc := "()I" } : Jvm.MethodName)) ∈ p_G := inC_7 101 rfl rfl
theorem w_1542 : (Jvm.Cond.instanceMethod ({ cls := "DriverHostModel", name := "errorPosition", desc := "()I" } : Jvm.MethodName)) ∈ p_G := inC_7 102 rfl rfl
theorem w_1543 : (Jvm.Cond.selects "DriverHostModel" ({ cls := "DriverHostModel", name := "errorPosition", desc := "()I" } : Jvm.MethodName) ({ cls := "DriverHostModel", name := "errorPosition", desc := "()I" } : Jvm.MethodName)) ∈ p_G := inC_7 103 rfl rfl
theorem w_1544 : (Jvm.Cond.code ({ cls := "DriverHostModel", name := "errorPosition", desc := "()I" } : Jvm.MethodName) prog_14_method_12_code (1 : Nat) (Option.some Jvm.ClassFile.FieldType.int)) ∈ p_G := inC_7 104 rfl rfl
theorem w_1545 : (Jvm.Cond.methodLink "DriverHostLaw" (122 : Nat) ({ cls := "DriverHostModel", name := "load", desc := "(I)I" } : Jvm.MethodName)) ∈ p_G := inC_7 105 rfl rfl
theorem w_1546 : (Jvm.Cond.instanceMethod ({ cls := "DriverHostModel", name := "load", desc := "(I)I" } : Jvm.MethodName)) ∈ p_G := inC_7 106 rfl rfl
theorem w_1547 : (Jvm.Cond.selects "DriverHostModel" ({ cls := "DriverHostModel", name := "load", desc := "(I)I" } : Jvm.MethodName) ({ cls := "DriverHostModel", name := "load", desc := "(I)I" } : Jvm.MethodName)) ∈ p_G := inC_7 107 rfl rfl
theorem w_1548 : (Jvm.Cond.code ({ cls := "DriverHostModel", name := "load", desc := "(I)I" } : Jvm.MethodName) prog_14_method_55_code (2 : Nat) (Option.some Jvm.ClassFile.FieldType.int)) ∈ p_G := inC_7 108 rfl rfl
theorem w_1549 : (Jvm.Cond.methodLink "DriverHostModel" (160 : Nat) ({ cls := "DriverHostModel", name := "in", desc := "(JJJ)Z" } : Jvm.MethodName)) ∈ p_G := inC_7 109 rfl rfl
theorem w_1550 : (Jvm.Cond.static ({ cls := "DriverHostModel", name := "in", desc := "(JJJ)Z" } : Jvm.MethodName)) ∈ p_G := inC_7 110 rfl rfl
theorem w_1551 : (Jvm.Cond.code ({ cls := "DriverHostModel", name := "in", desc := "(JJJ)Z" } : Jvm.MethodName) prog_14_method_3_code (6 : Nat) (Option.some Jvm.ClassFile.FieldType.boolean)) ∈ p_G := inC_7 111 rfl rfl
theorem w_1552 : (Jvm.Cond.methodLink "DriverHostModel" (344 : Nat) ({ cls := "DriverHostModel", name := "fails", desc := "(ZI)Z" } : Jvm.MethodName)) ∈ p_G := inC_7 112 rfl rfl
theorem w_1554 : (Jvm.Cond.instanceMethod ({ cls := "DriverHostModel", name := "fails", desc := "(ZI)Z" } : Jvm.MethodName)) ∈ p_G := inC_7 114 rfl rfl
theorem w_1555 : (Jvm.Cond.code ({ cls := "DriverHostModel", name := "fails", desc := "(ZI)Z" } : Jvm.MethodName) prog_14_method_4_code (3 : Nat) (Option.some Jvm.ClassFile.FieldType.boolean)) ∈ p_G := inC_7 115 rfl rfl
theorem w_1556 : (Jvm.Cond.methodLink "DriverHostModel" (348 : Nat) ({ cls := "DriverHostModel", name := "starts", desc := "(I)V" } : Jvm.MethodName)) ∈ p_G := inC_7 116 rfl rfl
theorem w_1558 : (Jvm.Cond.instanceMethod ({ cls := "DriverHostModel", name := "starts", desc := "(I)V" } : Jvm.MethodName)) ∈ p_G := inC_7 118 rfl rfl
theorem w_1559 : (Jvm.Cond.code ({ cls := "DriverHostModel", name := "starts", desc := "(I)V" } : Jvm.MethodName) prog_14_method_19_code (2 : Nat) (Option.none : Option Jvm.ClassFile.FieldType)) ∈ p_G := inC_7 119 rfl rfl
theorem w_1560 : (Jvm.Cond.methodLink "DriverHostModel" (143 : Nat) ({ cls := "DriverHostModel", name := "next", desc := "()V" } : Jvm.MethodName)) ∈ p_G := inC_7 120 rfl rfl
theorem w_1562 : (Jvm.Cond.instanceMethod ({ cls := "DriverHostModel", name := "next", desc := "()V" } : Jvm.MethodName)) ∈ p_G := inC_7 122 rfl rfl
theorem w_1563 : (Jvm.Cond.code ({ cls := "DriverHostModel", name := "next", desc := "()V" } : Jvm.MethodName) prog_14_method_18_code (1 : Nat) (Option.none : Option Jvm.ClassFile.FieldType)) ∈ p_G := inC_7 123 rfl rfl
theorem w_1564 : (Jvm.Cond.methodLink "DriverHostModel" (108 : Nat) ({ cls := "DriverHostModel", name := "byteAt", desc := "(I)I" } : Jvm.MethodName)) ∈ p_G := inC_7 124 rfl rfl
theorem w_1566 : (Jvm.Cond.instanceMethod ({ cls := "DriverHostModel", name := "byteAt", desc := "(I)I" } : Jvm.MethodName)) ∈ p_G := inC_7 126 rfl rfl
theorem w_1567 : (Jvm.Cond.code ({ cls := "DriverHostModel", name := "byteAt", desc := "(I)I" } : Jvm.MethodName) prog_14_method_13_code (2 : Nat) (Option.some Jvm.ClassFile.FieldType.int)) ∈ p_G := inC_7 127 rfl rfl
theorem w_1568 : (Jvm.Cond.methodLink "DriverHostModel" (112 : Nat) ({ cls := "DriverHostModel", name := "isLetter", desc := "(I)Z" } : Jvm.MethodName)) ∈ p_G := inC_7 128 rfl rfl
theorem w_1569 : (Jvm.Cond.static ({ cls := "DriverHostModel", name := "isLetter", desc := "(I)Z" } : Jvm.MethodName)) ∈ p_G := inC_7 129 rfl rfl
theorem w_1570 : (Jvm.Cond.code ({ cls := "DriverHostModel", name := "isLetter", desc := "(I)Z" } : Jvm.MethodName) prog_14_method_14_code (1 : Nat) (Option.some Jvm.ClassFile.FieldType.boolean)) ∈ p_G := inC_7 130 rfl rfl
theorem w_1571 : (Jvm.Cond.methodLink "DriverHostModel" (134 : Nat) ({ cls := "DriverHostModel", name := "readsWord", desc := "()V" } : Jvm.MethodName)) ∈ p_G := inC_7 131 rfl rfl
theorem w_1573 : (Jvm.Cond.instanceMethod ({ cls := "DriverHostModel", name := "readsWord", desc := "()V" } : Jvm.MethodName)) ∈ p_G := inC_7 133 rfl rfl
theorem w_1574 : (Jvm.Cond.code ({ cls := "DriverHostModel", name := "readsWord", desc := "()V" } : Jvm.MethodName) prog_14_method_16_code (1 : Nat) (Option.none : Option Jvm.ClassFile.FieldType)) ∈ p_G := inC_7 134 rfl rfl
theorem w_1575 : (Jvm.Cond.constantLong "DriverHostModel" (119 : Nat) (27 : Int64)) ∈ p_G := inC_7 135 rfl rfl
theorem w_1576 : (Jvm.Cond.constantLong "DriverHostModel" (121 : Nat) (96 : Int64)) ∈ p_G := inC_7 136 rfl rfl
theorem w_1577 : (Jvm.Cond.methodLink "DriverHostModel" (129 : Nat) ({ cls := "DriverHostModel", name := "isFigure", desc := "(I)Z" } : Jvm.MethodName)) ∈ p_G := inC_7 137 rfl rfl
theorem w_1578 : (Jvm.Cond.static ({ cls := "DriverHostModel", name := "isFigure", desc := "(I)Z" } : Jvm.MethodName)) ∈ p_G := inC_7 138 rfl rfl
theorem w_1579 : (Jvm.Cond.code ({ cls := "DriverHostModel", name := "isFigure", desc := "(I)Z" } : Jvm.MethodName) prog_14_method_15_code (1 : Nat) (Option.some Jvm.ClassFile.FieldType.boolean)) ∈ p_G := inC_7 139 rfl rfl
theorem w_1580 : (Jvm.Cond.methodLink "DriverHostModel" (137 : Nat) ({ cls := "DriverHostModel", name := "readsNumber", desc := "()V" } : Jvm.MethodName)) ∈ p_G := inC_7 140 rfl rfl
theorem w_1582 : (Jvm.Cond.instanceMethod ({ cls := "DriverHostModel", name := "readsNumber", desc := "()V" } : Jvm.MethodName)) ∈ p_G := inC_7 142 rfl rfl
theorem w_1583 : (Jvm.Cond.code ({ cls := "DriverHostModel", name := "readsNumber", desc := "()V" } : Jvm.MethodName) prog_14_method_17_code (1 : Nat) (Option.none : Option Jvm.ClassFile.FieldType)) ∈ p_G := inC_7 143 rfl rfl
theorem w_1584 : (Jvm.Cond.constant "DriverHostModel" (132 : Nat) (99999 : Int32)) ∈ p_G := inC_7 144 rfl rfl
theorem w_1585 : (Jvm.Cond.constant "DriverHostModel" (133 : Nat) (1000000 : Int32)) ∈ p_G := inC_7 145 rfl rfl
theorem w_1586 : (Jvm.Cond.constantLong "DriverHostModel" (164 : Nat) (1813182427 : Int64)) ∈ p_G := inC_7 146 rfl rfl
theorem w_1587 : (Jvm.Cond.methodLink "DriverHostModel" (276 : Nat) ({ cls := "DriverHostModel", name := "passes", desc := "(J)Z" } : Jvm.MethodName)) ∈ p_G := inC_7 147 rfl rfl
theorem w_1589 : (Jvm.Cond.instanceMethod ({ cls := "DriverHostModel", name := "passes", desc := "(J)Z" } : Jvm.MethodName)) ∈ p_G := inC_7 149 rfl rfl
theorem w_1590 : (Jvm.Cond.code ({ cls := "DriverHostModel", name := "passes", desc := "(J)Z" } : Jvm.MethodName) prog_14_method_23_code (3 : Nat) (Option.some Jvm.ClassFile.FieldType.boolean)) ∈ p_G := inC_7 150 rfl rfl
theorem w_1591 : (Jvm.Cond.methodLink "DriverHostModel" (150 : Nat) ({ cls := "DriverHostModel", name := "isWord", desc := "(J)Z" } : Jvm.MethodName)) ∈ p_G := inC_7 151 rfl rfl
theorem w_1593 : (Jvm.Cond.instanceMethod ({ cls := "DriverHostModel", name := "isWord", desc := "(J)Z" } : Jvm.MethodName)) ∈ p_G := inC_7 153 rfl rfl
theorem w_1594 : (Jvm.Cond.code ({ cls := "DriverHostModel", name := "isWord", desc := "(J)Z" } : Jvm.MethodName) prog_14_method_22_code (3 : Nat) (Option.some Jvm.ClassFile.FieldType.boolean)) ∈ p_G := inC_7 154 rfl rfl
theorem w_1595 : (Jvm.Cond.methodLink "DriverHostModel" (146 : Nat) ({ cls := "DriverHostModel", name := "isGood", desc := "()Z" } : Jvm.MethodName)) ∈ p_G := inC_7 155 rfl rfl
theorem w_1597 : (Jvm.Cond.instanceMethod ({ cls := "DriverHostModel", name := "isGood", desc := "()Z" } : Jvm.MethodName)) ∈ p_G := inC_7 157 rfl rfl
theorem w_1598 : (Jvm.Cond.code ({ cls := "DriverHostModel", name := "isGood", desc := "()Z" } : Jvm.MethodName) prog_14_method_21_code (1 : Nat) (Option.some Jvm.ClassFile.FieldType.boolean)) ∈ p_G := inC_7 158 rfl rfl
theorem w_1599 : (Jvm.Cond.methodLink "DriverHostModel" (157 : Nat) ({ cls := "DriverHostModel", name := "wrongs", desc := "(I)Z" } : Jvm.MethodName)) ∈ p_G := inC_7 159 rfl rfl
theorem w_1601 : (Jvm.Cond.instanceMethod ({ cls := "DriverHostModel", name := "wrongs", desc := "(I)Z" } : Jvm.MethodName)) ∈ p_G := inC_7 161 rfl rfl
theorem w_1602 : (Jvm.Cond.code ({ cls := "DriverHostModel", name := "wrongs", desc := "(I)Z" } : Jvm.MethodName) prog_14_method_20_code (2 : Nat) (Option.some Jvm.ClassFile.FieldType.boolean)) ∈ p_G := inC_7 162 rfl rfl
theorem w_1603 : (Jvm.Cond.methodLink "DriverHostModel" (266 : Nat) ({ cls := "DriverHostModel", name := "number", desc := "(II)I" } : Jvm.MethodName)) ∈ p_G := inC_7 163 rfl rfl
theorem w_1605 : (Jvm.Cond.instanceMethod ({ cls := "DriverHostModel", name := "number", desc := "(II)I" } : Jvm.MethodName)) ∈ p_G := inC_7 165 rfl rfl
theorem w_1606 : (Jvm.Cond.code ({ cls := "DriverHostModel", name := "number", desc := "(II)I" } : Jvm.MethodName) prog_14_method_26_code (4 : Nat) (Option.some Jvm.ClassFile.FieldType.int)) ∈ p_G := inC_7 166 rfl rfl
theorem w_1607 : (Jvm.Cond.methodLink "DriverHostModel" (328 : Nat) ({ cls := "DriverHostModel", name := "must", desc := "(I)V" } : Jvm.MethodName)) ∈ p_G := inC_7 167 rfl rfl
theorem w_1609 : (Jvm.Cond.instanceMethod ({ cls := "DriverHostModel", name := "must", desc := "(I)V" } : Jvm.MethodName)) ∈ p_G := inC_7 169 rfl rfl
theorem w_1610 : (Jvm.Cond.code ({ cls := "DriverHostModel", name := "must", desc := "(I)V" } : Jvm.MethodName) prog_14_method_25_code (2 : Nat) (Option.none : Option Jvm.ClassFile.FieldType)) ∈ p_G := inC_7 170 rfl rfl
theorem w_1611 : (Jvm.Cond.methodLink "DriverHostModel" (154 : Nat) ({ cls := "DriverHostModel", name := "isByte", desc := "(I)Z" } : Jvm.MethodName)) ∈ p_G := inC_7 171 rfl rfl
theorem w_1613 : (Jvm.Cond.instanceMethod ({ cls := "DriverHostModel", name := "isByte", desc := "(I)Z" } : Jvm.MethodName)) ∈ p_G := inC_7 173 rfl rfl
theorem w_1614 : (Jvm.Cond.code ({ cls := "DriverHostModel", name := "isByte", desc := "(I)Z" } : Jvm.MethodName) prog_14_method_24_code (2 : Nat) (Option.some Jvm.ClassFile.FieldType.boolean)) ∈ p_G := inC_7 174 rfl rfl
theorem w_1615 : (Jvm.Cond.methodLink "DriverHostModel" (351 : Nat) ({ cls := "DriverHostModel", name := "clause", desc := "()V" } : Jvm.MethodName)) ∈ p_G := inC_7 175 rfl rfl
theorem w_1617 : (Jvm.Cond.instanceMethod ({ cls := "DriverHostModel", name := "clause", desc := "()V" } : Jvm.MethodName)) ∈ p_G := inC_7 177 rfl rfl
theorem w_1618 : (Jvm.Cond.code ({ cls := "DriverHostModel", name := "clause", desc := "()V" } : Jvm.MethodName) prog_14_method_54_code (1 : Nat) (Option.none : Option Jvm.ClassFile.FieldType)) ∈ p_G := inC_7 178 rfl rfl
theorem w_1619 : (Jvm.Cond.constantLong "DriverHostModel" (166 : Nat) (1384660795 : Int64)) ∈ p_G := inC_7 179 rfl rfl
theorem w_1620 : (Jvm.Cond.methodLink "DriverHostModel" (341 : Nat) ({ cls := "DriverHostModel", name := "commandClause", desc := "()V" } : Jvm.MethodName)) ∈ p_G := inC_7 180 rfl rfl
theorem w_1622 : (Jvm.Cond.instanceMethod ({ cls := "DriverHostModel", name := "commandClause", desc := "()V" } : Jvm.MethodName)) ∈ p_G := inC_7 182 rfl rfl
theorem w_1623 : (Jvm.Cond.code ({ cls := "DriverHostModel", name := "commandClause", desc := "()V" } : Jvm.MethodName) prog_14_method_53_code (3 : Nat) (Option.none : Option Jvm.ClassFile.FieldType)) ∈ p_G := inC_7 183 rfl rfl
theorem w_1624 : (Jvm.Cond.methodLink "DriverHostModel" (331 : Nat) ({ cls := "DriverHostModel", name := "nameRead", desc := "(I)V" } : Jvm.MethodName)) ∈ p_G := inC_7 184 rfl rfl
theorem w_1626 : (Jvm.Cond.instanceMethod ({ cls := "DriverHostModel", name := "nameRead", desc := "(I)V" } : Jvm.MethodName)) ∈ p_G := inC_7 186 rfl rfl
theorem w_1627 : (Jvm.Cond.code ({ cls := "DriverHostModel", name := "nameRead", desc := "(I)V" } : Jvm.MethodName) prog_14_method_33_code (3 : Nat) (Option.none : Option Jvm.ClassFile.FieldType)) ∈ p_G := inC_7 187 rfl rfl
theorem w_1628 : (Jvm.Cond.methodLink "DriverHostModel" (247 : Nat) ({ cls := "DriverHostModel", name := "isName", desc := "()Z" } : Jvm.MethodName)) ∈ p_G := inC_7 188 rfl rfl
theorem w_1630 : (Jvm.Cond.instanceMethod ({ cls := "DriverHostModel", name := "isName", desc := "()Z" } : Jvm.MethodName)) ∈ p_G := inC_7 190 rfl rfl
theorem w_1631 : (Jvm.Cond.code ({ cls := "DriverHostModel", name := "isName", desc := "()Z" } : Jvm.MethodName) prog_14_method_31_code (1 : Nat) (Option.some Jvm.ClassFile.FieldType.boolean)) ∈ p_G := inC_7 191 rfl rfl
theorem w_1632 : (Jvm.Cond.methodLink "DriverHostModel" (238 : Nat) ({ cls := "DriverHostModel", name := "isClauseWord", desc := "()Z" } : Jvm.MethodName)) ∈ p_G := inC_7 192 rfl rfl
theorem w_1634 : (Jvm.Cond.instanceMethod ({ cls := "DriverHostModel", name := "isClauseWord", desc := "()Z" } : Jvm.MethodName)) ∈ p_G := inC_7 194 rfl rfl
theorem w_1635 : (Jvm.Cond.code ({ cls := "DriverHostModel", name := "isClauseWord", desc := "()Z" } : Jvm.MethodName) prog_14_method_27_code (1 : Nat) (Option.some Jvm.ClassFile.FieldType.boolean)) ∈ p_G := inC_7 195 rfl rfl
theorem w_1636 : (Jvm.Cond.constantLong "DriverHostModel" (168 : Nat) (400577 : Int64)) ∈ p_G := inC_7 196 rfl rfl
theorem w_1637 : (Jvm.Cond.constantLong "DriverHostModel" (170 : Nat) (261327161 : Int64)) ∈ p_G := inC_7 197 rfl rfl
theorem w_1638 : (Jvm.Cond.constantLong "DriverHostModel" (172 : Nat) (14006 : Int64)) ∈ p_G := inC_7 198 rfl rfl
theorem w_1639 : (Jvm.Cond.constantLong "DriverHostModel" (174 : Nat) (220309 : Int64)) ∈ p_G := inC_7 199 rfl rfl
theorem w_1640 : (Jvm.Cond.constantLong "DriverHostModel" (176 : Nat) (2232979 : Int64)) ∈ p_G := inC_7 200 rfl rfl
theorem w_1641 : (Jvm.Cond.constantLong "DriverHostModel" (178 : Nat) (60115 : Int64)) ∈ p_G := inC_7 201 rfl rfl
theorem w_1642 : (Jvm.Cond.constantLong "DriverHostModel" (180 : Nat) (283616030 : Int64)) ∈ p_G := inC_7 202 rfl rfl
theorem w_1643 : (Jvm.Cond.constantLong "DriverHostModel" (182 : Nat) (237745544 : Int64)) ∈ p_G := inC_7 203 rfl rfl
theorem w_1644 : (Jvm.Cond.constantLong "DriverHostModel" (184 : Nat) (3094387 : Int64)) ∈ p_G := inC_7 204 rfl rfl
theorem w_1645 : (Jvm.Cond.constantLong "DriverHostModel" (186 : Nat) (84273568011 : Int64)) ∈ p_G := inC_7 205 rfl rfl
theorem w_1646 : (Jvm.Cond.methodLink "DriverHostModel" (241 : Nat) ({ cls := "DriverHostModel", name := "isInnerWord", desc := "()Z" } : Jvm.MethodName)) ∈ p_G := inC_7 206 rfl rfl
theorem w_1648 : (Jvm.Cond.instanceMethod ({ cls := "DriverHostModel", name := "isInnerWord", desc := "()Z" } : Jvm.MethodName)) ∈ p_G := inC_7 208 rfl rfl
theorem w_1649 : (Jvm.Cond.code ({ cls := "DriverHostModel", name := "isInnerWord", desc := "()Z" } : Jvm.MethodName) prog_14_method_28_code (1 : Nat) (Option.some Jvm.ClassFile.FieldType.boolean)) ∈ p_G := inC_7 209 rfl rfl
theorem w_1650 : (Jvm.Cond.methodLink "DriverHostModel" (188 : Nat) ({ cls := "DriverHostModel", name := "classHere", desc := "()I" } : Jvm.MethodName)) ∈ p_G := inC_7 210 rfl rfl
theorem w_1652 : (Jvm.Cond.instanceMethod ({ cls := "DriverHostModel", name := "classHere", desc := "()I" } : Jvm.MethodName)) ∈ p_G := inC_7 212 rfl rfl
theorem w_1653 : (Jvm.Cond.code ({ cls := "DriverHostModel", name := "classHere", desc := "()I" } : Jvm.MethodName) prog_14_method_29_code (1 : Nat) (Option.some Jvm.ClassFile.FieldType.int)) ∈ p_G := inC_7 213 rfl rfl
theorem w_1654 : (Jvm.Cond.constantLong "DriverHostModel" (210 : Nat) (330728 : Int64)) ∈ p_G := inC_7 214 rfl rfl
theorem w_1655 : (Jvm.Cond.constantLong "DriverHostModel" (212 : Nat) (670208 : Int64)) ∈ p_G := inC_7 215 rfl rfl
theorem w_1656 : (Jvm.Cond.constantLong "DriverHostModel" (214 : Nat) (305537 : Int64)) ∈ p_G := inC_7 216 rfl rfl
theorem w_1657 : (Jvm.Cond.constantLong "DriverHostModel" (216 : Nat) (1755524 : Int64)) ∈ p_G := inC_7 217 rfl rfl
theorem w_1658 : (Jvm.Cond.constantLong "DriverHostModel" (192 : Nat) (423 : Int64)) ∈ p_G := inC_7 218 rfl rfl
theorem w_1659 : (Jvm.Cond.constantLong "DriverHostModel" (194 : Nat) (1111 : Int64)) ∈ p_G := inC_7 219 rfl rfl
theorem w_1660 : (Jvm.Cond.constantLong "DriverHostModel" (196 : Nat) (10631 : Int64)) ∈ p_G := inC_7 220 rfl rfl
theorem w_1661 : (Jvm.Cond.constantLong "DriverHostModel" (198 : Nat) (13264 : Int64)) ∈ p_G := inC_7 221 rfl rfl
theorem w_1662 : (Jvm.Cond.constantLong "DriverHostModel" (200 : Nat) (16083 : Int64)) ∈ p_G := inC_7 222 rfl rfl
theorem w_1663 : (Jvm.Cond.constantLong "DriverHostModel" (202 : Nat) (1222 : Int64)) ∈ p_G := inC_7 223 rfl rfl
theorem w_1664 : (Jvm.Cond.constantLong "DriverHostModel" (204 : Nat) (13276 : Int64)) ∈ p_G := inC_7 224 rfl rfl
theorem w_1665 : (Jvm.Cond.constantLong "DriverHostModel" (206 : Nat) (257011 : Int64)) ∈ p_G := inC_7 225 rfl rfl
theorem w_1666 : (Jvm.Cond.constantLong "DriverHostModel" (208 : Nat) (3379448 : Int64)) ∈ p_G := inC_7 226 rfl rfl
theorem w_1667 : (Jvm.Cond.methodLink "DriverHostModel" (244 : Nat) ({ cls := "DriverHostModel", name := "propertyHere", desc := "()I" } : Jvm.MethodName)) ∈ p_G := inC_7 227 rfl rfl
theorem w_1669 : (Jvm.Cond.instanceMethod ({ cls := "DriverHostModel", name := "propertyHere", desc := "()I" } : Jvm.MethodName)) ∈ p_G := inC_7 229 rfl rfl
theorem w_1670 : (Jvm.Cond.code ({ cls := "DriverHostModel", name := "propertyHere", desc := "()I" } : Jvm.MethodName) prog_14_method_30_code (1 : Nat) (Option.some Jvm.ClassFile.FieldType.int)) ∈ p_G := inC_7 230 rfl rfl
theorem w_1671 : (Jvm.Cond.constantLong "DriverHostModel" (218 : Nat) (212302449 : Int64)) ∈ p_G := inC_7 231 rfl rfl
theorem w_1672 : (Jvm.Cond.constantLong "DriverHostModel" (220 : Nat) (67154904 : Int64)) ∈ p_G := inC_7 232 rfl rfl
theorem w_1673 : (Jvm.Cond.constantLong "DriverHostModel" (222 : Nat) (223456 : Int64)) ∈ p_G := inC_7 233 rfl rfl
theorem w_1674 : (Jvm.Cond.constantLong "DriverHostModel" (224 : Nat) (1831780 : Int64)) ∈ p_G := inC_7 234 rfl rfl
theorem w_1675 : (Jvm.Cond.constantLong "DriverHostModel" (226 : Nat) (17545784537 : Int64)) ∈ p_G := inC_7 235 rfl rfl
theorem w_1676 : (Jvm.Cond.constantLong "DriverHostModel" (228 : Nat) (174476693248 : Int64)) ∈ p_G := inC_7 236 rfl rfl
theorem w_1677 : (Jvm.Cond.constantLong "DriverHostModel" (230 : Nat) (10492313 : Int64)) ∈ p_G := inC_7 237 rfl rfl
theorem w_1678 : (Jvm.Cond.constantLong "DriverHostModel" (232 : Nat) (2343906806 : Int64)) ∈ p_G := inC_7 238 rfl rfl
theorem w_1679 : (Jvm.Cond.constantLong "DriverHostModel" (234 : Nat) (44960072472307 : Int64)) ∈ p_G := inC_7 239 rfl rfl
theorem w_1680 : (Jvm.Cond.constantLong "DriverHostModel" (236 : Nat) (1421453197 : Int64)) ∈ p_G := inC_8 0 rfl rfl
theorem w_1681 : (Jvm.Cond.methodLink "DriverHostModel" (250 : Nat) ({ cls := "DriverHostModel", name := "isNamed", desc := "(I)Z" } : Jvm.MethodName)) ∈ p_G := inC_8 1 rfl rfl
theorem w_1683 : (Jvm.Cond.instanceMethod ({ cls := "DriverHostModel", name := "isNamed", desc := "(I)Z" } : Jvm.MethodName)) ∈ p_G := inC_8 3 rfl rfl
theorem w_1684 : (Jvm.Cond.code ({ cls := "DriverHostModel", name := "isNamed", desc := "(I)Z" } : Jvm.MethodName) prog_14_method_32_code (3 : Nat) (Option.some Jvm.ClassFile.FieldType.boolean)) ∈ p_G := inC_8 4 rfl rfl
theorem w_1685 : (Jvm.Cond.methodLink "DriverHostModel" (334 : Nat) ({ cls := "DriverHostModel", name := "classRead", desc := "(I)V" } : Jvm.MethodName)) ∈ p_G := inC_8 5 rfl rfl
theorem w_1687 : (Jvm.Cond.instanceMethod ({ cls := "DriverHostModel", name := "classRead", desc := "(I)V" } : Jvm.MethodName)) ∈ p_G := inC_8 7 rfl rfl
theorem w_1688 : (Jvm.Cond.code ({ cls := "DriverHostModel", name := "classRead", desc := "(I)V" } : Jvm.MethodName) prog_14_method_51_code (2 : Nat) (Option.none : Option Jvm.ClassFile.FieldType)) ∈ p_G := inC_8 8 rfl rfl
theorem w_1689 : (Jvm.Cond.methodLink "DriverHostModel" (325 : Nat) ({ cls := "DriverHostModel", name := "testRead", desc := "()V" } : Jvm.MethodName)) ∈ p_G := inC_8 9 rfl rfl
theorem w_1691 : (Jvm.Cond.instanceMethod ({ cls := "DriverHostModel", name := "testRead", desc := "()V" } : Jvm.MethodName)) ∈ p_G := inC_8 11 rfl rfl
theorem w_1692 : (Jvm.Cond.code ({ cls := "DriverHostModel", name := "testRead", desc := "()V" } : Jvm.MethodName) prog_14_method_50_code (3 : Nat) (Option.none : Option Jvm.ClassFile.FieldType)) ∈ p_G := inC_8 12 rfl rfl
theorem w_1693 : (Jvm.Cond.methodLink "DriverHostModel" (319 : Nat) ({ cls := "DriverHostModel", name := "comparisonRead", desc := "()V" } : Jvm.MethodName)) ∈ p_G := inC_8 13 rfl rfl
theorem w_1695 : (Jvm.Cond.instanceMethod ({ cls := "DriverHostModel", name := "comparisonRead", desc := "()V" } : Jvm.MethodName)) ∈ p_G := inC_8 15 rfl rfl
theorem w_1696 : (Jvm.Cond.code ({ cls := "DriverHostModel", name := "comparisonRead", desc := "()V" } : Jvm.MethodName) prog_14_method_48_code (2 : Nat) (Option.none : Option Jvm.ClassFile.FieldType)) ∈ p_G := inC_8 16 rfl rfl
theorem w_1697 : (Jvm.Cond.methodLink "DriverHostModel" (307 : Nat) ({ cls := "DriverHostModel", name := "isOpening", desc := "()Z" } : Jvm.MethodName)) ∈ p_G := inC_8 17 rfl rfl
theorem w_1699 : (Jvm.Cond.instanceMethod ({ cls := "DriverHostModel", name := "isOpening", desc := "()Z" } : Jvm.MethodName)) ∈ p_G := inC_8 19 rfl rfl
theorem w_1700 : (Jvm.Cond.code ({ cls := "DriverHostModel", name := "isOpening", desc := "()Z" } : Jvm.MethodName) prog_14_method_47_code (1 : Nat) (Option.some Jvm.ClassFile.FieldType.boolean)) ∈ p_G := inC_8 20 rfl rfl
theorem w_1701 : (Jvm.Cond.methodLink "DriverHostModel" (282 : Nat) ({ cls := "DriverHostModel", name := "goesIn", desc := "(I)Z" } : Jvm.MethodName)) ∈ p_G := inC_8 21 rfl rfl
theorem w_1703 : (Jvm.Cond.instanceMethod ({ cls := "DriverHostModel", name := "goesIn", desc := "(I)Z" } : Jvm.MethodName)) ∈ p_G := inC_8 23 rfl rfl
theorem w_1704 : (Jvm.Cond.code ({ cls := "DriverHostModel", name := "goesIn", desc := "(I)Z" } : Jvm.MethodName) prog_14_method_35_code (2 : Nat) (Option.some Jvm.ClassFile.FieldType.boolean)) ∈ p_G := inC_8 24 rfl rfl
theorem w_1705 : (Jvm.Cond.methodLink "DriverHostModel" (310 : Nat) ({ cls := "DriverHostModel", name := "sideRead", desc := "()V" } : Jvm.MethodName)) ∈ p_G := inC_8 25 rfl rfl
theorem w_1707 : (Jvm.Cond.instanceMethod ({ cls := "DriverHostModel", name := "sideRead", desc := "()V" } : Jvm.MethodName)) ∈ p_G := inC_8 27 rfl rfl
theorem w_1708 : (Jvm.Cond.code ({ cls := "DriverHostModel", name := "sideRead", desc := "()V" } : Jvm.MethodName) prog_14_method_43_code (1 : Nat) (Option.none : Option Jvm.ClassFile.FieldType)) ∈ p_G := inC_8 28 rfl rfl
theorem w_1709 : (Jvm.Cond.methodLink "DriverHostModel" (298 : Nat) ({ cls := "DriverHostModel", name := "valueRead", desc := "()V" } : Jvm.MethodName)) ∈ p_G := inC_8 29 rfl rfl
theorem w_1711 : (Jvm.Cond.instanceMethod ({ cls := "DriverHostModel", name := "valueRead", desc := "()V" } : Jvm.MethodName)) ∈ p_G := inC_8 31 rfl rfl
theorem w_1712 : (Jvm.Cond.code ({ cls := "DriverHostModel", name := "valueRead", desc := "()V" } : Jvm.MethodName) prog_14_method_42_code (2 : Nat) (Option.none : Option Jvm.ClassFile.FieldType)) ∈ p_G := inC_8 32 rfl rfl
theorem w_1713 : (Jvm.Cond.methodLink "DriverHostModel" (270 : Nat) ({ cls := "DriverHostModel", name := "adds", desc := "(I)V" } : Jvm.MethodName)) ∈ p_G := inC_8 33 rfl rfl
theorem w_1715 : (Jvm.Cond.instanceMethod ({ cls := "DriverHostModel", name := "adds", desc := "(I)V" } : Jvm.MethodName)) ∈ p_G := inC_8 35 rfl rfl
theorem w_1716 : (Jvm.Cond.code ({ cls := "DriverHostModel", name := "adds", desc := "(I)V" } : Jvm.MethodName) prog_14_method_34_code (2 : Nat) (Option.none : Option Jvm.ClassFile.FieldType)) ∈ p_G := inC_8 36 rfl rfl
theorem w_1717 : (Jvm.Cond.methodLink "DriverHostModel" (301 : Nat) ({ cls := "DriverHostModel", name := "sumRead", desc := "()V" } : Jvm.MethodName)) ∈ p_G := inC_8 37 rfl rfl
theorem w_1719 : (Jvm.Cond.instanceMethod ({ cls := "DriverHostModel", name := "sumRead", desc := "()V" } : Jvm.MethodName)) ∈ p_G := inC_8 39 rfl rfl
theorem w_1720 : (Jvm.Cond.code ({ cls := "DriverHostModel", name := "sumRead", desc := "()V" } : Jvm.MethodName) prog_14_method_41_code (4 : Nat) (Option.none : Option Jvm.ClassFile.FieldType)) ∈ p_G := inC_8 40 rfl rfl
theorem w_1721 : (Jvm.Cond.methodLink "DriverHostModel" (285 : Nat) ({ cls := "DriverHostModel", name := "operandRead", desc := "()V" } : Jvm.MethodName)) ∈ p_G := inC_8 41 rfl rfl
theorem w_1723 : (Jvm.Cond.instanceMethod ({ cls := "DriverHostModel", name := "operandRead", desc := "()V" } : Jvm.MethodName)) ∈ p_G := inC_8 43 rfl rfl
theorem w_1724 : (Jvm.Cond.code ({ cls := "DriverHostModel", name := "operandRead", desc := "()V" } : Jvm.MethodName) prog_14_method_36_code (2 : Nat) (Option.none : Option Jvm.ClassFile.FieldType)) ∈ p_G := inC_8 44 rfl rfl
theorem w_1725 : (Jvm.Cond.constant "DriverHostModel" (265 : Nat) (65535 : Int32)) ∈ p_G := inC_8 45 rfl rfl
theorem w_1726 : (Jvm.Cond.methodLink "DriverHostModel" (288 : Nat) ({ cls := "DriverHostModel", name := "hasBracket", desc := "(I)Z" } : Jvm.MethodName)) ∈ p_G := inC_8 46 rfl rfl
theorem w_1728 : (Jvm.Cond.instanceMethod ({ cls := "DriverHostModel", name := "hasBracket", desc := "(I)Z" } : Jvm.MethodName)) ∈ p_G := inC_8 48 rfl rfl
theorem w_1729 : (Jvm.Cond.code ({ cls := "DriverHostModel", name := "hasBracket", desc := "(I)Z" } : Jvm.MethodName) prog_14_method_39_code (3 : Nat) (Option.some Jvm.ClassFile.FieldType.boolean)) ∈ p_G := inC_8 49 rfl rfl
theorem w_1730 : (Jvm.Cond.methodLink "DriverHostModel" (291 : Nat) ({ cls := "DriverHostModel", name := "sumSettles", desc := "(II)V" } : Jvm.MethodName)) ∈ p_G := inC_8 50 rfl rfl
theorem w_1732 : (Jvm.Cond.instanceMethod ({ cls := "DriverHostModel", name := "sumSettles", desc := "(II)V" } : Jvm.MethodName)) ∈ p_G := inC_8 52 rfl rfl
theorem w_1733 : (Jvm.Cond.code ({ cls := "DriverHostModel", name := "sumSettles", desc := "(II)V" } : Jvm.MethodName) prog_14_method_38_code (3 : Nat) (Option.none : Option Jvm.ClassFile.FieldType)) ∈ p_G := inC_8 53 rfl rfl
theorem w_1734 : (Jvm.Cond.methodLink "DriverHostModel" (279 : Nat) ({ cls := "DriverHostModel", name := "rank", desc := "(I)I" } : Jvm.MethodName)) ∈ p_G := inC_8 54 rfl rfl
theorem w_1735 : (Jvm.Cond.static ({ cls := "DriverHostModel", name := "rank", desc := "(I)I" } : Jvm.MethodName)) ∈ p_G := inC_8 55 rfl rfl
theorem w_1736 : (Jvm.Cond.code ({ cls := "DriverHostModel", name := "rank", desc := "(I)I" } : Jvm.MethodName) prog_14_method_37_code (1 : Nat) (Option.some Jvm.ClassFile.FieldType.int)) ∈ p_G := inC_8 56 rfl rfl
theorem w_1737 : (Jvm.Cond.methodLink "DriverHostModel" (295 : Nat) ({ cls := "DriverHostModel", name := "operatorHere", desc := "()I" } : Jvm.MethodName)) ∈ p_G := inC_8 57 rfl rfl
theorem w_1739 : (Jvm.Cond.instanceMethod ({ cls := "DriverHostModel", name := "operatorHere", desc := "()I" } : Jvm.MethodName)) ∈ p_G := inC_8 59 rfl rfl
theorem w_1740 : (Jvm.Cond.code ({ cls := "DriverHostModel", name := "operatorHere", desc := "()I" } : Jvm.MethodName) prog_14_method_40_code (1 : Nat) (Option.some Jvm.ClassFile.FieldType.int)) ∈ p_G := inC_8 60 rfl rfl
theorem w_1741 : (Jvm.Cond.methodLink "DriverHostModel" (322 : Nat) ({ cls := "DriverHostModel", name := "closes", desc := "()V" } : Jvm.MethodName)) ∈ p_G := inC_8 61 rfl rfl
theorem w_1743 : (Jvm.Cond.instanceMethod ({ cls := "DriverHostModel", name := "closes", desc := "()V" } : Jvm.MethodName)) ∈ p_G := inC_8 63 rfl rfl
theorem w_1744 : (Jvm.Cond.code ({ cls := "DriverHostModel", name := "closes", desc := "()V" } : Jvm.MethodName) prog_14_method_49_code (1 : Nat) (Option.none : Option Jvm.ClassFile.FieldType)) ∈ p_G := inC_8 64 rfl rfl
theorem w_1745 : (Jvm.Cond.methodLink "DriverHostModel" (313 : Nat) ({ cls := "DriverHostModel", name := "settles", desc := "(I)V" } : Jvm.MethodName)) ∈ p_G := inC_8 65 rfl rfl
theorem w_1747 : (Jvm.Cond.instanceMethod ({ cls := "DriverHostModel", name := "settles", desc := "(I)V" } : Jvm.MethodName)) ∈ p_G := inC_8 67 rfl rfl
theorem w_1748 : (Jvm.Cond.code ({ cls := "DriverHostModel", name := "settles", desc := "(I)V" } : Jvm.MethodName) prog_14_method_45_code (2 : Nat) (Option.none : Option Jvm.ClassFile.FieldType)) ∈ p_G := inC_8 68 rfl rfl
theorem w_1749 : (Jvm.Cond.methodLink "DriverHostModel" (304 : Nat) ({ cls := "DriverHostModel", name := "strength", desc := "(I)I" } : Jvm.MethodName)) ∈ p_G := inC_8 69 rfl rfl
theorem w_1750 : (Jvm.Cond.static ({ cls := "DriverHostModel", name := "strength", desc := "(I)I" } : Jvm.MethodName)) ∈ p_G := inC_8 70 rfl rfl
theorem w_1751 : (Jvm.Cond.code ({ cls := "DriverHostModel", name := "strength", desc := "(I)I" } : Jvm.MethodName) prog_14_method_44_code (1 : Nat) (Option.some Jvm.ClassFile.FieldType.int)) ∈ p_G := inC_8 71 rfl rfl
theorem w_1752 : (Jvm.Cond.methodLink "DriverHostModel" (316 : Nat) ({ cls := "DriverHostModel", name := "isInside", desc := "()Z" } : Jvm.MethodName)) ∈ p_G := inC_8 72 rfl rfl
theorem w_1754 : (Jvm.Cond.instanceMethod ({ cls := "DriverHostModel", name := "isInside", desc := "()Z" } : Jvm.MethodName)) ∈ p_G := inC_8 74 rfl rfl
theorem w_1755 : (Jvm.Cond.code ({ cls := "DriverHostModel", name := "isInside", desc := "()Z" } : Jvm.MethodName) prog_14_method_46_code (2 : Nat) (Option.some Jvm.ClassFile.FieldType.boolean)) ∈ p_G := inC_8 75 rfl rfl
theorem w_1756 : (Jvm.Cond.methodLink "DriverHostModel" (337 : Nat) ({ cls := "DriverHostModel", name := "storesRead", desc := "(JIII)V" } : Jvm.MethodName)) ∈ p_G := inC_8 76 rfl rfl
theorem w_1758 : (Jvm.Cond.instanceMethod ({ cls := "DriverHostModel", name := "storesRead", desc := "(JIII)V" } : Jvm.MethodName)) ∈ p_G := inC_8 78 rfl rfl
theorem w_1759 : (Jvm.Cond.code ({ cls := "DriverHostModel", name := "storesRead", desc := "(JIII)V" } : Jvm.MethodName) prog_14_method_52_code (7 : Nat) (Option.none : Option Jvm.ClassFile.FieldType)) ∈ p_G := inC_8 79 rfl rfl
theorem w_1760 : (Jvm.Cond.methodLink "DriverHostLaw" (131 : Nat) ({ cls := "DriverHostModel", name := "driverCount", desc := "()I" } : Jvm.MethodName)) ∈ p_G := inC_8 80 rfl rfl
theorem w_1761 : (Jvm.Cond.instanceMethod ({ cls := "DriverHostModel", name := "driverCount", desc := "()I" } : Jvm.MethodName)) ∈ p_G := inC_8 81 rfl rfl
theorem w_1762 : (Jvm.Cond.selects "DriverHostModel" ({ cls := "DriverHostModel", name := "driverCount", desc := "()I" } : Jvm.MethodName) ({ cls := "DriverHostModel", name := "driverCount", desc := "()I" } : Jvm.MethodName)) ∈ p_G := inC_8 82 rfl rfl
theorem w_1763 : (Jvm.Cond.code ({ cls := "DriverHostModel", name := "driverCount", desc := "()I" } : Jvm.MethodName) prog_14_method_85_code (1 : Nat) (Option.some Jvm.ClassFile.FieldType.int)) ∈ p_G := inC_8 83 rfl rfl
theorem w_1764 : (Jvm.Cond.methodLink "DriverHostLaw" (135 : Nat) ({ cls := "DriverHostModel", name := "commandCount", desc := "()I" } : Jvm.MethodName)) ∈ p_G := inC_8 84 rfl rfl
theorem w_1765 : (Jvm.Cond.instanceMethod ({ cls := "DriverHostModel", name := "commandCount", desc := "()I" } : Jvm.MethodName)) ∈ p_G := inC_8 85 rfl rfl
theorem w_1766 : (Jvm.Cond.selects "DriverHostModel" ({ cls := "DriverHostModel", name := "commandCount", desc := "()I" } : Jvm.MethodName) ({ cls := "DriverHostModel", name := "commandCount", desc := "()I" } : Jvm.MethodName)) ∈ p_G := inC_8 86 rfl rfl
theorem w_1767 : (Jvm.Cond.code ({ cls := "DriverHostModel", name := "commandCount", desc := "()I" } : Jvm.MethodName) prog_14_method_86_code (1 : Nat) (Option.some Jvm.ClassFile.FieldType.int)) ∈ p_G := inC_8 87 rfl rfl
theorem w_1768 : (Jvm.Cond.methodLink "DriverHostLaw" (139 : Nat) ({ cls := "DriverHostModel", name := "requestCount", desc := "()I" } : Jvm.MethodName)) ∈ p_G := inC_8 88 rfl rfl
theorem w_1769 : (Jvm.Cond.instanceMethod ({ cls := "DriverHostModel", name := "requestCount", desc := "()I" } : Jvm.MethodName)) ∈ p_G := inC_8 89 rfl rfl
theorem w_1770 : (Jvm.Cond.selects "DriverHostModel" ({ cls := "DriverHostModel", name := "requestCount", desc := "()I" } : Jvm.MethodName) ({ cls := "DriverHostModel", name := "requestCount", desc := "()I" } : Jvm.MethodName)) ∈ p_G := inC_8 90 rfl rfl
theorem w_1771 : (Jvm.Cond.code ({ cls := "DriverHostModel", name := "requestCount", desc := "()I" } : Jvm.MethodName) prog_14_method_87_code (1 : Nat) (Option.some Jvm.ClassFile.FieldType.int)) ∈ p_G := inC_8 91 rfl rfl
theorem w_1772 : (Jvm.Cond.methodLink "DriverHostLaw" (143 : Nat) ({ cls := "DriverHostModel", name := "clock", desc := "()I" } : Jvm.MethodName)) ∈ p_G := inC_8 92 rfl rfl
theorem w_1773 : (Jvm.Cond.instanceMethod ({ cls := "DriverHostModel", name := "clock", desc := "()I" } : Jvm.MethodName)) ∈ p_G := inC_8 93 rfl rfl
theorem w_1774 : (Jvm.Cond.selects "DriverHostModel" ({ cls := "DriverHostModel", name := "clock", desc := "()I" } : Jvm.MethodName) ({ cls := "DriverHostModel", name := "clock", desc := "()I" } : Jvm.MethodName)) ∈ p_G := inC_8 94 rfl rfl
theorem w_1775 : (Jvm.Cond.code ({ cls := "DriverHostModel", name := "clock", desc := "()I" } : Jvm.MethodName) prog_14_method_88_code (1 : Nat) (Option.some Jvm.ClassFile.FieldType.int)) ∈ p_G := inC_8 95 rfl rfl
theorem w_1776 : (Jvm.Cond.methodLink "DriverHostLaw" (146 : Nat) ({ cls := "DriverHostModel", name := "classOf", desc := "(I)I" } : Jvm.MethodName)) ∈ p_G := inC_8 96 rfl rfl
theorem w_1777 : (Jvm.Cond.instanceMethod ({ cls := "DriverHostModel", name := "classOf", desc := "(I)I" } : Jvm.MethodName)) ∈ p_G := inC_8 97 rfl rfl
theorem w_1778 : (Jvm.Cond.selects "DriverHostModel" ({ cls := "DriverHostModel", name := "classOf", desc := "(I)I" } : Jvm.MethodName) ({ cls := "DriverHostModel", name := "classOf", desc := "(I)I" } : Jvm.MethodName)) ∈ p_G := inC_8 98 rfl rfl
theorem w_1779 : (Jvm.Cond.code ({ cls := "DriverHostModel", name := "classOf", desc := "(I)I" } : Jvm.MethodName) prog_14_method_89_code (2 : Nat) (Option.some Jvm.ClassFile.FieldType.int)) ∈ p_G := inC_8 99 rfl rfl
theorem w_1780 : (Jvm.Cond.methodLink "DriverHostModel" (457 : Nat) ({ cls := "DriverHostModel", name := "isCommand", desc := "(I)Z" } : Jvm.MethodName)) ∈ p_G := inC_8 100 rfl rfl
theorem w_1782 : (Jvm.Cond.instanceMethod ({ cls := "DriverHostModel", name := "isCommand", desc := "(I)Z" } : Jvm.MethodName)) ∈ p_G := inC_8 102 rfl rfl
theorem w_1783 : (Jvm.Cond.code ({ cls := "DriverHostModel", name := "isCommand", desc := "(I)Z" } : Jvm.MethodName) prog_14_method_83_code (2 : Nat) (Option.some Jvm.ClassFile.FieldType.boolean)) ∈ p_G := inC_8 103 rfl rfl
theorem w_1784 : (Jvm.Cond.methodLink "DriverHostLaw" (149 : Nat) ({ cls := "DriverHostModel", name := "timeOf", desc := "(I)I" } : Jvm.MethodName)) ∈ p_G := inC_8 104 rfl rfl
theorem w_1785 : (Jvm.Cond.instanceMethod ({ cls := "DriverHostModel", name := "timeOf", desc := "(I)I" } : Jvm.MethodName)) ∈ p_G := inC_8 105 rfl rfl
theorem w_1786 : (Jvm.Cond.selects "DriverHostModel" ({ cls := "DriverHostModel", name := "timeOf", desc := "(I)I" } : Jvm.MethodName) ({ cls := "DriverHostModel", name := "timeOf", desc := "(I)I" } : Jvm.MethodName)) ∈ p_G := inC_8 106 rfl rfl
theorem w_1787 : (Jvm.Cond.code ({ cls := "DriverHostModel", name := "timeOf", desc := "(I)I" } : Jvm.MethodName) prog_14_method_90_code (2 : Nat) (Option.some Jvm.ClassFile.FieldType.int)) ∈ p_G := inC_8 107 rfl rfl
theorem w_1788 : (Jvm.Cond.methodLink "DriverHostLaw" (178 : Nat) ({ cls := "DriverHostModel", name := "driverState", desc := "(I)I" } : Jvm.MethodName)) ∈ p_G := inC_8 108 rfl rfl
theorem w_1789 : (Jvm.Cond.instanceMethod ({ cls := "DriverHostModel", name := "driverState", desc := "(I)I" } : Jvm.MethodName)) ∈ p_G := inC_8 109 rfl rfl
theorem w_1790 : (Jvm.Cond.selects "DriverHostModel" ({ cls := "DriverHostModel", name := "driverState", desc := "(I)I" } : Jvm.MethodName) ({ cls := "DriverHostModel", name := "driverState", desc := "(I)I" } : Jvm.MethodName)) ∈ p_G := inC_8 110 rfl rfl
theorem w_1791 : (Jvm.Cond.code ({ cls := "DriverHostModel", name := "driverState", desc := "(I)I" } : Jvm.MethodName) prog_14_method_92_code (2 : Nat) (Option.some Jvm.ClassFile.FieldType.int)) ∈ p_G := inC_8 111 rfl rfl
theorem w_1792 : (Jvm.Cond.methodLink "DriverHostModel" (463 : Nat) ({ cls := "DriverHostModel", name := "noDriver", desc := "(I)Z" } : Jvm.MethodName)) ∈ p_G := inC_8 112 rfl rfl
theorem w_1794 : (Jvm.Cond.instanceMethod ({ cls := "DriverHostModel", name := "noDriver", desc := "(I)Z" } : Jvm.MethodName)) ∈ p_G := inC_8 114 rfl rfl
theorem w_1795 : (Jvm.Cond.code ({ cls := "DriverHostModel", name := "noDriver", desc := "(I)Z" } : Jvm.MethodName) prog_14_method_91_code (2 : Nat) (Option.some Jvm.ClassFile.FieldType.boolean)) ∈ p_G := inC_8 115 rfl rfl
theorem w_1796 : (Jvm.Cond.methodLink "DriverHostModel" (460 : Nat) ({ cls := "DriverHostModel", name := "isDriver", desc := "(I)Z" } : Jvm.MethodName)) ∈ p_G := inC_8 116 rfl rfl
theorem w_1798 : (Jvm.Cond.instanceMethod ({ cls := "DriverHostModel", name := "isDriver", desc := "(I)Z" } : Jvm.MethodName)) ∈ p_G := inC_8 118 rfl rfl
theorem w_1799 : (Jvm.Cond.code ({ cls := "DriverHostModel", name := "isDriver", desc := "(I)Z" } : Jvm.MethodName) prog_14_method_82_code (2 : Nat) (Option.some Jvm.ClassFile.FieldType.boolean)) ∈ p_G := inC_8 119 rfl rfl
theorem w_1800 : (Jvm.Cond.methodLink "DriverHostLaw" (181 : Nat) ({ cls := "DriverHostModel", name := "downUntil", desc := "(I)I" } : Jvm.MethodName)) ∈ p_G := inC_8 120 rfl rfl
theorem w_1801 : (Jvm.Cond.instanceMethod ({ cls := "DriverHostModel", name := "downUntil", desc := "(I)I" } : Jvm.MethodName)) ∈ p_G := inC_8 121 rfl rfl
theorem w_1802 : (Jvm.Cond.selects "DriverHostModel" ({ cls := "DriverHostModel", name := "downUntil", desc := "(I)I" } : Jvm.MethodName) ({ cls := "DriverHostModel", name := "downUntil", desc := "(I)I" } : Jvm.MethodName)) ∈ p_G := inC_8 122 rfl rfl
theorem w_1803 : (Jvm.Cond.code ({ cls := "DriverHostModel", name := "downUntil", desc := "(I)I" } : Jvm.MethodName) prog_14_method_93_code (2 : Nat) (Option.some Jvm.ClassFile.FieldType.int)) ∈ p_G := inC_8 123 rfl rfl
theorem w_1804 : (Jvm.Cond.methodLink "DriverHostLaw" (184 : Nat) ({ cls := "DriverHostModel", name := "streak", desc := "(I)I" } : Jvm.MethodName)) ∈ p_G := inC_8 124 rfl rfl
theorem w_1805 : (Jvm.Cond.instanceMethod ({ cls := "DriverHostModel", name := "streak", desc := "(I)I" } : Jvm.MethodName)) ∈ p_G := inC_8 125 rfl rfl
theorem w_1806 : (Jvm.Cond.selects "DriverHostModel" ({ cls := "DriverHostModel", name := "streak", desc := "(I)I" } : Jvm.MethodName) ({ cls := "DriverHostModel", name := "streak", desc := "(I)I" } : Jvm.MethodName)) ∈ p_G := inC_8 126 rfl rfl
theorem w_1807 : (Jvm.Cond.code ({ cls := "DriverHostModel", name := "streak", desc := "(I)I" } : Jvm.MethodName) prog_14_method_94_code (2 : Nat) (Option.some Jvm.ClassFile.FieldType.int)) ∈ p_G := inC_8 127 rfl rfl
theorem w_1808 : (Jvm.Cond.methodLink "DriverHostLaw" (188 : Nat) ({ cls := "DriverHostModel", name := "register", desc := "(II)I" } : Jvm.MethodName)) ∈ p_G := inC_8 128 rfl rfl
theorem w_1809 : (Jvm.Cond.instanceMethod ({ cls := "DriverHostModel", name := "register", desc := "(II)I" } : Jvm.MethodName)) ∈ p_G := inC_8 129 rfl rfl
theorem w_1810 : (Jvm.Cond.selects "DriverHostModel" ({ cls := "DriverHostModel", name := "register", desc := "(II)I" } : Jvm.MethodName) ({ cls := "DriverHostModel", name := "register", desc := "(II)I" } : Jvm.MethodName)) ∈ p_G := inC_8 130 rfl rfl
theorem w_1811 : (Jvm.Cond.code ({ cls := "DriverHostModel", name := "register", desc := "(II)I" } : Jvm.MethodName) prog_14_method_95_code (3 : Nat) (Option.some Jvm.ClassFile.FieldType.int)) ∈ p_G := inC_8 131 rfl rfl
theorem w_1812 : (Jvm.Cond.constantLong "DriverHostModel" (466 : Nat) (7 : Int64)) ∈ p_G := inC_8 132 rfl rfl
theorem w_1813 : (Jvm.Cond.methodLink "DriverHostLaw" (191 : Nat) ({ cls := "DriverHostModel", name := "variable", desc := "(II)I" } : Jvm.MethodName)) ∈ p_G := inC_8 133 rfl rfl
theorem w_1814 : (Jvm.Cond.instanceMethod ({ cls := "DriverHostModel", name := "variable", desc := "(II)I" } : Jvm.MethodName)) ∈ p_G := inC_8 134 rfl rfl
theorem w_1815 : (Jvm.Cond.selects "DriverHostModel" ({ cls := "DriverHostModel", name := "variable", desc := "(II)I" } : Jvm.MethodName) ({ cls := "DriverHostModel", name := "variable", desc := "(II)I" } : Jvm.MethodName)) ∈ p_G := inC_8 135 rfl rfl
theorem w_1816 : (Jvm.Cond.code ({ cls := "DriverHostModel", name := "variable", desc := "(II)I" } : Jvm.MethodName) prog_14_method_96_code (3 : Nat) (Option.some Jvm.ClassFile.FieldType.int)) ∈ p_G := inC_8 136 rfl rfl
theorem w_1817 : (Jvm.Cond.constantLong "DriverHostModel" (468 : Nat) (3 : Int64)) ∈ p_G := inC_8 137 rfl rfl
theorem w_1818 : (Jvm.Cond.methodLink "DriverHostLaw" (194 : Nat) ({ cls := "DriverHostModel", name := "saved", desc := "(II)I" } : Jvm.MethodName)) ∈ p_G := inC_8 138 rfl rfl
theorem w_1819 : (Jvm.Cond.instanceMethod ({ cls := "DriverHostModel", name := "saved", desc := "(II)I" } : Jvm.MethodName)) ∈ p_G := inC_8 139 rfl rfl
theorem w_1820 : (Jvm.Cond.selects "DriverHostModel" ({ cls := "DriverHostModel", name := "saved", desc := "(II)I" } : Jvm.MethodName) ({ cls := "DriverHostModel", name := "saved", desc := "(II)I" } : Jvm.MethodName)) ∈ p_G := inC_8 140 rfl rfl
theorem w_1821 : (Jvm.Cond.code ({ cls := "DriverHostModel", name := "saved", desc := "(II)I" } : Jvm.MethodName) prog_14_method_97_code (3 : Nat) (Option.some Jvm.ClassFile.FieldType.int)) ∈ p_G := inC_8 141 rfl rfl
theorem w_1822 : (Jvm.Cond.methodLink "DriverHostLaw" (197 : Nat) ({ cls := "DriverHostModel", name := "logSize", desc := "(I)I" } : Jvm.MethodName)) ∈ p_G := inC_8 142 rfl rfl
theorem w_1823 : (Jvm.Cond.instanceMethod ({ cls := "DriverHostModel", name := "logSize", desc := "(I)I" } : Jvm.MethodName)) ∈ p_G := inC_8 143 rfl rfl
theorem w_1824 : (Jvm.Cond.selects "DriverHostModel" ({ cls := "DriverHostModel", name := "logSize", desc := "(I)I" } : Jvm.MethodName) ({ cls := "DriverHostModel", name := "logSize", desc := "(I)I" } : Jvm.MethodName)) ∈ p_G := inC_8 144 rfl rfl
theorem w_1825 : (Jvm.Cond.code ({ cls := "DriverHostModel", name := "logSize", desc := "(I)I" } : Jvm.MethodName) prog_14_method_98_code (2 : Nat) (Option.some Jvm.ClassFile.FieldType.int)) ∈ p_G := inC_8 145 rfl rfl
theorem w_1826 : (Jvm.Cond.methodLink "DriverHostLaw" (200 : Nat) ({ cls := "DriverHostModel", name := "logged", desc := "(II)I" } : Jvm.MethodName)) ∈ p_G := inC_8 146 rfl rfl
theorem w_1827 : (Jvm.Cond.instanceMethod ({ cls := "DriverHostModel", name := "logged", desc := "(II)I" } : Jvm.MethodName)) ∈ p_G := inC_8 147 rfl rfl
theorem w_1828 : (Jvm.Cond.selects "DriverHostModel" ({ cls := "DriverHostModel", name := "logged", desc := "(II)I" } : Jvm.MethodName) ({ cls := "DriverHostModel", name := "logged", desc := "(II)I" } : Jvm.MethodName)) ∈ p_G := inC_8 148 rfl rfl
theorem w_1829 : (Jvm.Cond.code ({ cls := "DriverHostModel", name := "logged", desc := "(II)I" } : Jvm.MethodName) prog_14_method_99_code (3 : Nat) (Option.some Jvm.ClassFile.FieldType.int)) ∈ p_G := inC_8 149 rfl rfl
theorem w_1830 : (Jvm.Cond.methodLink "DriverHostLaw" (203 : Nat) ({ cls := "DriverHostModel", name := "inFlight", desc := "(I)I" } : Jvm.MethodName)) ∈ p_G := inC_8 150 rfl rfl
theorem w_1831 : (Jvm.Cond.instanceMethod ({ cls := "DriverHostModel", name := "inFlight", desc := "(I)I" } : Jvm.MethodName)) ∈ p_G := inC_8 151 rfl rfl
theorem w_1832 : (Jvm.Cond.selects "DriverHostModel" ({ cls := "DriverHostModel", name := "inFlight", desc := "(I)I" } : Jvm.MethodName) ({ cls := "DriverHostModel", name := "inFlight", desc := "(I)I" } : Jvm.MethodName)) ∈ p_G := inC_8 152 rfl rfl
theorem w_1833 : (Jvm.Cond.code ({ cls := "DriverHostModel", name := "inFlight", desc := "(I)I" } : Jvm.MethodName) prog_14_method_100_code (2 : Nat) (Option.some Jvm.ClassFile.FieldType.int)) ∈ p_G := inC_8 153 rfl rfl
theorem w_1834 : (Jvm.Cond.methodLink "DriverHostLaw" (206 : Nat) ({ cls := "DriverHostModel", name := "nextRequest", desc := "(I)I" } : Jvm.MethodName)) ∈ p_G := inC_8 154 rfl rfl
theorem w_1835 : (Jvm.Cond.instanceMethod ({ cls := "DriverHostModel", name := "nextRequest", desc := "(I)I" } : Jvm.MethodName)) ∈ p_G := inC_8 155 rfl rfl
theorem w_1836 : (Jvm.Cond.selects "DriverHostModel" ({ cls := "DriverHostModel", name := "nextRequest", desc := "(I)I" } : Jvm.MethodName) ({ cls := "DriverHostModel", name := "nextRequest", desc := "(I)I" } : Jvm.MethodName)) ∈ p_G := inC_8 156 rfl rfl
theorem w_1837 : (Jvm.Cond.code ({ cls := "DriverHostModel", name := "nextRequest", desc := "(I)I" } : Jvm.MethodName) prog_14_method_101_code (2 : Nat) (Option.some Jvm.ClassFile.FieldType.int)) ∈ p_G := inC_8 157 rfl rfl
theorem w_1838 : (Jvm.Cond.methodLink "DriverHostModel" (432 : Nat) ({ cls := "DriverHostModel", name := "nextOf", desc := "([II)I" } : Jvm.MethodName)) ∈ p_G := inC_8 158 rfl rfl
theorem w_1840 : (Jvm.Cond.instanceMethod ({ cls := "DriverHostModel", name := "nextOf", desc := "([II)I" } : Jvm.MethodName)) ∈ p_G := inC_8 160 rfl rfl
theorem w_1841 : (Jvm.Cond.code ({ cls := "DriverHostModel", name := "nextOf", desc := "([II)I" } : Jvm.MethodName) prog_14_method_75_code (5 : Nat) (Option.some Jvm.ClassFile.FieldType.int)) ∈ p_G := inC_8 161 rfl rfl
theorem w_1842 : (Jvm.Cond.methodLink "DriverHostModel" (383 : Nat) ({ cls := "DriverHostModel", name := "of", desc := "([III)I" } : Jvm.MethodName)) ∈ p_G := inC_8 162 rfl rfl
theorem w_1843 : (Jvm.Cond.static ({ cls := "DriverHostModel", name := "of", desc := "([III)I" } : Jvm.MethodName)) ∈ p_G := inC_8 163 rfl rfl
theorem w_1844 : (Jvm.Cond.code ({ cls := "DriverHostModel", name := "of", desc := "([III)I" } : Jvm.MethodName) prog_14_method_61_code (3 : Nat) (Option.some Jvm.ClassFile.FieldType.int)) ∈ p_G := inC_8 164 rfl rfl
theorem w_1845 : (Jvm.Cond.methodLink "DriverHostLaw" (209 : Nat) ({ cls := "DriverHostModel", name := "queued", desc := "(I)I" } : Jvm.MethodName)) ∈ p_G := inC_8 165 rfl rfl
theorem w_1846 : (Jvm.Cond.instanceMethod ({ cls := "DriverHostModel", name := "queued", desc := "(I)I" } : Jvm.MethodName)) ∈ p_G := inC_8 166 rfl rfl
theorem w_1847 : (Jvm.Cond.selects "DriverHostModel" ({ cls := "DriverHostModel", name := "queued", desc := "(I)I" } : Jvm.MethodName) ({ cls := "DriverHostModel", name := "queued", desc := "(I)I" } : Jvm.MethodName)) ∈ p_G := inC_8 167 rfl rfl
theorem w_1848 : (Jvm.Cond.code ({ cls := "DriverHostModel", name := "queued", desc := "(I)I" } : Jvm.MethodName) prog_14_method_102_code (4 : Nat) (Option.some Jvm.ClassFile.FieldType.int)) ∈ p_G := inC_8 168 rfl rfl
theorem w_1849 : (Jvm.Cond.methodLink "DriverHostLaw" (212 : Nat) ({ cls := "DriverHostModel", name := "request", desc := "(II)I" } : Jvm.MethodName)) ∈ p_G := inC_8 169 rfl rfl
theorem w_1850 : (Jvm.Cond.instanceMethod ({ cls := "DriverHostModel", name := "request", desc := "(II)I" } : Jvm.MethodName)) ∈ p_G := inC_8 170 rfl rfl
theorem w_1851 : (Jvm.Cond.selects "DriverHostModel" ({ cls := "DriverHostModel", name := "request", desc := "(II)I" } : Jvm.MethodName) ({ cls := "DriverHostModel", name := "request", desc := "(II)I" } : Jvm.MethodName)) ∈ p_G := inC_8 171 rfl rfl
theorem w_1852 : (Jvm.Cond.code ({ cls := "DriverHostModel", name := "request", desc := "(II)I" } : Jvm.MethodName) prog_14_method_104_code (4 : Nat) (Option.some Jvm.ClassFile.FieldType.int)) ∈ p_G := inC_8 172 rfl rfl
theorem w_1853 : (Jvm.Cond.methodLink "DriverHostModel" (473 : Nat) ({ cls := "DriverHostModel", name := "noRequest", desc := "(I)Z" } : Jvm.MethodName)) ∈ p_G := inC_8 173 rfl rfl
theorem w_1855 : (Jvm.Cond.instanceMethod ({ cls := "DriverHostModel", name := "noRequest", desc := "(I)Z" } : Jvm.MethodName)) ∈ p_G := inC_8 175 rfl rfl
theorem w_1856 : (Jvm.Cond.code ({ cls := "DriverHostModel", name := "noRequest", desc := "(I)Z" } : Jvm.MethodName) prog_14_method_103_code (2 : Nat) (Option.some Jvm.ClassFile.FieldType.boolean)) ∈ p_G := inC_8 176 rfl rfl
theorem w_1857 : (Jvm.Cond.methodLink "DriverHostModel" (470 : Nat) ({ cls := "DriverHostModel", name := "isRequest", desc := "(I)Z" } : Jvm.MethodName)) ∈ p_G := inC_8 177 rfl rfl
theorem w_1859 : (Jvm.Cond.instanceMethod ({ cls := "DriverHostModel", name := "isRequest", desc := "(I)Z" } : Jvm.MethodName)) ∈ p_G := inC_8 179 rfl rfl
theorem w_1860 : (Jvm.Cond.code ({ cls := "DriverHostModel", name := "isRequest", desc := "(I)Z" } : Jvm.MethodName) prog_14_method_84_code (2 : Nat) (Option.some Jvm.ClassFile.FieldType.boolean)) ∈ p_G := inC_8 180 rfl rfl
theorem w_1861 : (Jvm.Cond.constantLong "DriverHostModel" (476 : Nat) (14 : Int64)) ∈ p_G := inC_8 181 rfl rfl
theorem w_1862 : (Jvm.Cond.methodLink "DriverHostLaw" (216 : Nat) ({ cls := "DriverHostModel", name := "recordCount", desc := "()I" } : Jvm.MethodName)) ∈ p_G := inC_8 182 rfl rfl
theorem w_1863 : (Jvm.Cond.instanceMethod ({ cls := "DriverHostModel", name := "recordCount", desc := "()I" } : Jvm.MethodName)) ∈ p_G := inC_8 183 rfl rfl
theorem w_1864 : (Jvm.Cond.selects "DriverHostModel" ({ cls := "DriverHostModel", name := "recordCount", desc := "()I" } : Jvm.MethodName) ({ cls := "DriverHostModel", name := "recordCount", desc := "()I" } : Jvm.MethodName)) ∈ p_G := inC_8 184 rfl rfl
theorem w_1865 : (Jvm.Cond.code ({ cls := "DriverHostModel", name := "recordCount", desc := "()I" } : Jvm.MethodName) prog_14_method_105_code (1 : Nat) (Option.some Jvm.ClassFile.FieldType.int)) ∈ p_G := inC_8 185 rfl rfl
theorem w_1866 : (Jvm.Cond.methodLink "DriverHostLaw" (219 : Nat) ({ cls := "DriverHostModel", name := "record", desc := "(II)I" } : Jvm.MethodName)) ∈ p_G := inC_8 186 rfl rfl
theorem w_1867 : (Jvm.Cond.instanceMethod ({ cls := "DriverHostModel", name := "record", desc := "(II)I" } : Jvm.MethodName)) ∈ p_G := inC_8 187 rfl rfl
theorem w_1868 : (Jvm.Cond.selects "DriverHostModel" ({ cls := "DriverHostModel", name := "record", desc := "(II)I" } : Jvm.MethodName) ({ cls := "DriverHostModel", name := "record", desc := "(II)I" } : Jvm.MethodName)) ∈ p_G := inC_8 188 rfl rfl
theorem w_1869 : (Jvm.Cond.code ({ cls := "DriverHostModel", name := "record", desc := "(II)I" } : Jvm.MethodName) prog_14_method_106_code (3 : Nat) (Option.some Jvm.ClassFile.FieldType.int)) ∈ p_G := inC_8 189 rfl rfl
theorem w_1870 : (Jvm.Cond.methodLink "DriverHostLaw" (223 : Nat) ({ cls := "DriverHostModel", name := "total", desc := "(I)I" } : Jvm.MethodName)) ∈ p_G := inC_8 190 rfl rfl
theorem w_1871 : (Jvm.Cond.instanceMethod ({ cls := "DriverHostModel", name := "total", desc := "(I)I" } : Jvm.MethodName)) ∈ p_G := inC_8 191 rfl rfl
theorem w_1872 : (Jvm.Cond.selects "DriverHostModel" ({ cls := "DriverHostModel", name := "total", desc := "(I)I" } : Jvm.MethodName) ({ cls := "DriverHostModel", name := "total", desc := "(I)I" } : Jvm.MethodName)) ∈ p_G := inC_8 192 rfl rfl
theorem w_1873 : (Jvm.Cond.code ({ cls := "DriverHostModel", name := "total", desc := "(I)I" } : Jvm.MethodName) prog_14_method_107_code (2 : Nat) (Option.some Jvm.ClassFile.FieldType.int)) ∈ p_G := inC_8 193 rfl rfl
theorem w_1874 : (Jvm.Cond.constantLong "DriverHostModel" (478 : Nat) (8 : Int64)) ∈ p_G := inC_8 194 rfl rfl
theorem w_1875 : (Jvm.Cond.methodLink "DriverHostLaw" (227 : Nat) ({ cls := "DriverHostModel", name := "availability", desc := "(I)D" } : Jvm.MethodName)) ∈ p_G := inC_8 195 rfl rfl
theorem w_1876 : (Jvm.Cond.instanceMethod ({ cls := "DriverHostModel", name := "availability", desc := "(I)D" } : Jvm.MethodName)) ∈ p_G := inC_8 196 rfl rfl
theorem w_1877 : (Jvm.Cond.selects "DriverHostModel" ({ cls := "DriverHostModel", name := "availability", desc := "(I)D" } : Jvm.MethodName) ({ cls := "DriverHostModel", name := "availability", desc := "(I)D" } : Jvm.MethodName)) ∈ p_G := inC_8 197 rfl rfl
theorem w_1878 : (Jvm.Cond.code ({ cls := "DriverHostModel", name := "availability", desc := "(I)D" } : Jvm.MethodName) prog_14_method_108_code (2 : Nat) (Option.some Jvm.ClassFile.FieldType.double)) ∈ p_G := inC_8 198 rfl rfl
theorem w_1879 : (Jvm.Cond.methodLink "DriverHostLaw" (230 : Nat) ({ cls := "DriverHostModel", name := "meanTime", desc := "(I)F" } : Jvm.MethodName)) ∈ p_G := inC_8 199 rfl rfl
theorem w_1880 : (Jvm.Cond.instanceMethod ({ cls := "DriverHostModel", name := "meanTime", desc := "(I)F" } : Jvm.MethodName)) ∈ p_G := inC_8 200 rfl rfl
theorem w_1881 : (Jvm.Cond.selects "DriverHostModel" ({ cls := "DriverHostModel", name := "meanTime", desc := "(I)F" } : Jvm.MethodName) ({ cls := "DriverHostModel", name := "meanTime", desc := "(I)F" } : Jvm.MethodName)) ∈ p_G := inC_8 201 rfl rfl
theorem w_1882 : (Jvm.Cond.code ({ cls := "DriverHostModel", name := "meanTime", desc := "(I)F" } : Jvm.MethodName) prog_14_method_109_code (5 : Nat) (Option.some Jvm.ClassFile.FieldType.float)) ∈ p_G := inC_8 202 rfl rfl
theorem w_1883 : (Jvm.Cond.methodLink "DriverHostLaw" (153 : Nat) ({ cls := "DriverHostModel", name := "submit", desc := "(IIIII)I" } : Jvm.MethodName)) ∈ p_G := inC_8 203 rfl rfl
theorem w_1884 : (Jvm.Cond.instanceMethod ({ cls := "DriverHostModel", name := "submit", desc := "(IIIII)I" } : Jvm.MethodName)) ∈ p_G := inC_8 204 rfl rfl
theorem w_1885 : (Jvm.Cond.selects "DriverHostModel" ({ cls := "DriverHostModel", name := "submit", desc := "(IIIII)I" } : Jvm.MethodName) ({ cls := "DriverHostModel", name := "submit", desc := "(IIIII)I" } : Jvm.MethodName)) ∈ p_G := inC_8 205 rfl rfl
theorem w_1886 : (Jvm.Cond.code ({ cls := "DriverHostModel", name := "submit", desc := "(IIIII)I" } : Jvm.MethodName) prog_14_method_111_code (8 : Nat) (Option.some Jvm.ClassFile.FieldType.int)) ∈ p_G := inC_8 206 rfl rfl
theorem w_1887 : (Jvm.Cond.constantLong "DriverHostModel" (480 : Nat) (100000 : Int64)) ∈ p_G := inC_8 207 rfl rfl
theorem w_1888 : (Jvm.Cond.methodLink "DriverHostModel" (482 : Nat) ({ cls := "DriverHostModel", name := "records", desc := "()V" } : Jvm.MethodName)) ∈ p_G := inC_8 208 rfl rfl
theorem w_1890 : (Jvm.Cond.instanceMethod ({ cls := "DriverHostModel", name := "records", desc := "()V" } : Jvm.MethodName)) ∈ p_G := inC_8 210 rfl rfl
theorem w_1891 : (Jvm.Cond.code ({ cls := "DriverHostModel", name := "records", desc := "()V" } : Jvm.MethodName) prog_14_method_110_code (2 : Nat) (Option.none : Option Jvm.ClassFile.FieldType)) ∈ p_G := inC_8 211 rfl rfl
theorem w_1892 : (Jvm.Cond.methodLink "DriverHostModel" (391 : Nat) ({ cls := "DriverHostModel", name := "sets", desc := "([IIII)V" } : Jvm.MethodName)) ∈ p_G := inC_8 212 rfl rfl
theorem w_1893 : (Jvm.Cond.static ({ cls := "DriverHostModel", name := "sets", desc := "([IIII)V" } : Jvm.MethodName)) ∈ p_G := inC_8 213 rfl rfl
theorem w_1894 : (Jvm.Cond.code ({ cls := "DriverHostModel", name := "sets", desc := "([IIII)V" } : Jvm.MethodName) prog_14_method_62_code (4 : Nat) (Option.none : Option Jvm.ClassFile.FieldType)) ∈ p_G := inC_8 214 rfl rfl
theorem w_1895 : (Jvm.Cond.methodLink "DriverHostModel" (395 : Nat) ({ cls := "DriverHostModel", name := "notes", desc := "([IIII)V" } : Jvm.MethodName)) ∈ p_G := inC_8 215 rfl rfl
theorem w_1897 : (Jvm.Cond.instanceMethod ({ cls := "DriverHostModel", name := "notes", desc := "([IIII)V" } : Jvm.MethodName)) ∈ p_G := inC_8 217 rfl rfl
theorem w_1898 : (Jvm.Cond.code ({ cls := "DriverHostModel", name := "notes", desc := "([IIII)V" } : Jvm.MethodName) prog_14_method_66_code (6 : Nat) (Option.none : Option Jvm.ClassFile.FieldType)) ∈ p_G := inC_8 218 rfl rfl
theorem w_1899 : (Jvm.Cond.methodLink "DriverHostLaw" (156 : Nat) ({ cls := "DriverHostModel", name := "cancel", desc := "(I)I" } : Jvm.MethodName)) ∈ p_G := inC_8 219 rfl rfl
theorem w_1900 : (Jvm.Cond.instanceMethod ({ cls := "DriverHostModel", name := "cancel", desc := "(I)I" } : Jvm.MethodName)) ∈ p_G := inC_8 220 rfl rfl
theorem w_1901 : (Jvm.Cond.selects "DriverHostModel" ({ cls := "DriverHostModel", name := "cancel", desc := "(I)I" } : Jvm.MethodName) ({ cls := "DriverHostModel", name := "cancel", desc := "(I)I" } : Jvm.MethodName)) ∈ p_G := inC_8 221 rfl rfl
theorem w_1902 : (Jvm.Cond.code ({ cls := "DriverHostModel", name := "cancel", desc := "(I)I" } : Jvm.MethodName) prog_14_method_112_code (2 : Nat) (Option.some Jvm.ClassFile.FieldType.int)) ∈ p_G := inC_8 222 rfl rfl
theorem w_1903 : (Jvm.Cond.methodLink "DriverHostModel" (411 : Nat) ({ cls := "DriverHostModel", name := "endsBadly", desc := "([III)V" } : Jvm.MethodName)) ∈ p_G := inC_8 223 rfl rfl
theorem w_1905 : (Jvm.Cond.instanceMethod ({ cls := "DriverHostModel", name := "endsBadly", desc := "([III)V" } : Jvm.MethodName)) ∈ p_G := inC_8 225 rfl rfl
theorem w_1906 : (Jvm.Cond.code ({ cls := "DriverHostModel", name := "endsBadly", desc := "([III)V" } : Jvm.MethodName) prog_14_method_67_code (5 : Nat) (Option.none : Option Jvm.ClassFile.FieldType)) ∈ p_G := inC_8 226 rfl rfl
theorem w_1907 : (Jvm.Cond.methodLink "DriverHostLaw" (160 : Nat) ({ cls := "DriverHostModel", name := "plan", desc := "(III)I" } : Jvm.MethodName)) ∈ p_G := inC_8 227 rfl rfl
theorem w_1908 : (Jvm.Cond.instanceMethod ({ cls := "DriverHostModel", name := "plan", desc := "(III)I" } : Jvm.MethodName)) ∈ p_G := inC_8 228 rfl rfl
theorem w_1909 : (Jvm.Cond.selects "DriverHostModel" ({ cls := "DriverHostModel", name := "plan", desc := "(III)I" } : Jvm.MethodName) ({ cls := "DriverHostModel", name := "plan", desc := "(III)I" } : Jvm.MethodName)) ∈ p_G := inC_8 229 rfl rfl
theorem w_1910 : (Jvm.Cond.code ({ cls := "DriverHostModel", name := "plan", desc := "(III)I" } : Jvm.MethodName) prog_14_method_113_code (5 : Nat) (Option.some Jvm.ClassFile.FieldType.int)) ∈ p_G := inC_8 230 rfl rfl
theorem w_1911 : (Jvm.Cond.constantLong "DriverHostModel" (485 : Nat) (2 : Int64)) ∈ p_G := inC_8 231 rfl rfl
theorem w_1912 : (Jvm.Cond.constantLong "DriverHostModel" (357 : Nat) (20 : Int64)) ∈ p_G := inC_8 232 rfl rfl
theorem w_1913 : (Jvm.Cond.methodLink "DriverHostLaw" (163 : Nat) ({ cls := "DriverHostModel", name := "kill", desc := "(I)I" } : Jvm.MethodName)) ∈ p_G := inC_8 233 rfl rfl
theorem w_1914 : (Jvm.Cond.instanceMethod ({ cls := "DriverHostModel", name := "kill", desc := "(I)I" } : Jvm.MethodName)) ∈ p_G := inC_8 234 rfl rfl
theorem w_1915 : (Jvm.Cond.selects "DriverHostModel" ({ cls := "DriverHostModel", name := "kill", desc := "(I)I" } : Jvm.MethodName) ({ cls := "DriverHostModel", name := "kill", desc := "(I)I" } : Jvm.MethodName)) ∈ p_G := inC_8 235 rfl rfl
theorem w_1916 : (Jvm.Cond.code ({ cls := "DriverHostModel", name := "kill", desc := "(I)I" } : Jvm.MethodName) prog_14_method_114_code (2 : Nat) (Option.some Jvm.ClassFile.FieldType.int)) ∈ p_G := inC_8 236 rfl rfl
theorem w_1917 : (Jvm.Cond.methodLink "DriverHostModel" (439 : Nat) ({ cls := "DriverHostModel", name := "crashes", desc := "([II)V" } : Jvm.MethodName)) ∈ p_G := inC_8 237 rfl rfl
theorem w_1919 : (Jvm.Cond.instanceMethod ({ cls := "DriverHostModel", name := "crashes", desc := "([II)V" } : Jvm.MethodName)) ∈ p_G := inC_8 239 rfl rfl
theorem w_1920 : (Jvm.Cond.code ({ cls := "DriverHostModel", name := "crashes", desc := "([II)V" } : Jvm.MethodName) prog_14_method_72_code (5 : Nat) (Option.none : Option Jvm.ClassFile.FieldType)) ∈ p_G := inC_9 0 rfl rfl
theorem w_1921 : (Jvm.Cond.methodLink "DriverHostModel" (408 : Nat) ({ cls := "DriverHostModel", name := "loses", desc := "([II)V" } : Jvm.MethodName)) ∈ p_G := inC_9 1 rfl rfl
theorem w_1922 : (Jvm.Cond.static ({ cls := "DriverHostModel", name := "loses", desc := "([II)V" } : Jvm.MethodName)) ∈ p_G := inC_9 2 rfl rfl
theorem w_1923 : (Jvm.Cond.code ({ cls := "DriverHostModel", name := "loses", desc := "([II)V" } : Jvm.MethodName) prog_14_method_70_code (3 : Nat) (Option.none : Option Jvm.ClassFile.FieldType)) ∈ p_G := inC_9 3 rfl rfl
theorem w_1924 : (Jvm.Cond.methodLink "DriverHostModel" (415 : Nat) ({ cls := "DriverHostModel", name := "delayOf", desc := "(I)I" } : Jvm.MethodName)) ∈ p_G := inC_9 4 rfl rfl
theorem w_1926 : (Jvm.Cond.instanceMethod ({ cls := "DriverHostModel", name := "delayOf", desc := "(I)I" } : Jvm.MethodName)) ∈ p_G := inC_9 6 rfl rfl
theorem w_1927 : (Jvm.Cond.code ({ cls := "DriverHostModel", name := "delayOf", desc := "(I)I" } : Jvm.MethodName) prog_14_method_71_code (4 : Nat) (Option.some Jvm.ClassFile.FieldType.int)) ∈ p_G := inC_9 7 rfl rfl
theorem w_1928 : (Jvm.Cond.methodLink "DriverHostModel" (405 : Nat) ({ cls := "DriverHostModel", name := "lesser", desc := "(II)I" } : Jvm.MethodName)) ∈ p_G := inC_9 8 rfl rfl
theorem w_1929 : (Jvm.Cond.static ({ cls := "DriverHostModel", name := "lesser", desc := "(II)I" } : Jvm.MethodName)) ∈ p_G := inC_9 9 rfl rfl
theorem w_1930 : (Jvm.Cond.code ({ cls := "DriverHostModel", name := "lesser", desc := "(II)I" } : Jvm.MethodName) prog_14_method_5_code (2 : Nat) (Option.some Jvm.ClassFile.FieldType.int)) ∈ p_G := inC_9 10 rfl rfl
theorem w_1931 : (Jvm.Cond.methodLink "DriverHostLaw" (166 : Nat) ({ cls := "DriverHostModel", name := "replace", desc := "(I)I" } : Jvm.MethodName)) ∈ p_G := inC_9 11 rfl rfl
theorem w_1932 : (Jvm.Cond.instanceMethod ({ cls := "DriverHostModel", name := "replace", desc := "(I)I" } : Jvm.MethodName)) ∈ p_G := inC_9 12 rfl rfl
theorem w_1933 : (Jvm.Cond.selects "DriverHostModel" ({ cls := "DriverHostModel", name := "replace", desc := "(I)I" } : Jvm.MethodName) ({ cls := "DriverHostModel", name := "replace", desc := "(I)I" } : Jvm.MethodName)) ∈ p_G := inC_9 13 rfl rfl
theorem w_1934 : (Jvm.Cond.code ({ cls := "DriverHostModel", name := "replace", desc := "(I)I" } : Jvm.MethodName) prog_14_method_115_code (2 : Nat) (Option.some Jvm.ClassFile.FieldType.int)) ∈ p_G := inC_9 14 rfl rfl
theorem w_1935 : (Jvm.Cond.methodLink "DriverHostModel" (402 : Nat) ({ cls := "DriverHostModel", name := "snaps", desc := "([II)V" } : Jvm.MethodName)) ∈ p_G := inC_9 15 rfl rfl
theorem w_1937 : (Jvm.Cond.instanceMethod ({ cls := "DriverHostModel", name := "snaps", desc := "([II)V" } : Jvm.MethodName)) ∈ p_G := inC_9 17 rfl rfl
theorem w_1938 : (Jvm.Cond.code ({ cls := "DriverHostModel", name := "snaps", desc := "([II)V" } : Jvm.MethodName) prog_14_method_68_code (4 : Nat) (Option.none : Option Jvm.ClassFile.FieldType)) ∈ p_G := inC_9 18 rfl rfl
theorem w_1939 : (Jvm.Cond.methodLink "DriverHostLaw" (169 : Nat) ({ cls := "DriverHostModel", name := "takeSnapshot", desc := "(I)I" } : Jvm.MethodName)) ∈ p_G := inC_9 19 rfl rfl
theorem w_1940 : (Jvm.Cond.instanceMethod ({ cls := "DriverHostModel", name := "takeSnapshot", desc := "(I)I" } : Jvm.MethodName)) ∈ p_G := inC_9 20 rfl rfl
theorem w_1941 : (Jvm.Cond.selects "DriverHostModel" ({ cls := "DriverHostModel", name := "takeSnapshot", desc := "(I)I" } : Jvm.MethodName) ({ cls := "DriverHostModel", name := "takeSnapshot", desc := "(I)I" } : Jvm.MethodName)) ∈ p_G := inC_9 21 rfl rfl
theorem w_1942 : (Jvm.Cond.code ({ cls := "DriverHostModel", name := "takeSnapshot", desc := "(I)I" } : Jvm.MethodName) prog_14_method_116_code (3 : Nat) (Option.some Jvm.ClassFile.FieldType.int)) ∈ p_G := inC_9 22 rfl rfl
theorem w_1943 : (Jvm.Cond.methodLink "DriverHostLaw" (172 : Nat) ({ cls := "DriverHostModel", name := "poke", desc := "(III)I" } : Jvm.MethodName)) ∈ p_G := inC_9 23 rfl rfl
theorem w_1944 : (Jvm.Cond.instanceMethod ({ cls := "DriverHostModel", name := "poke", desc := "(III)I" } : Jvm.MethodName)) ∈ p_G := inC_9 24 rfl rfl
theorem w_1945 : (Jvm.Cond.selects "DriverHostModel" ({ cls := "DriverHostModel", name := "poke", desc := "(III)I" } : Jvm.MethodName) ({ cls := "DriverHostModel", name := "poke", desc := "(III)I" } : Jvm.MethodName)) ∈ p_G := inC_9 25 rfl rfl
theorem w_1946 : (Jvm.Cond.code ({ cls := "DriverHostModel", name := "poke", desc := "(III)I" } : Jvm.MethodName) prog_14_method_117_code (5 : Nat) (Option.some Jvm.ClassFile.FieldType.int)) ∈ p_G := inC_9 26 rfl rfl
theorem w_1947 : (Jvm.Cond.constantLong "DriverHostModel" (487 : Nat) (65535 : Int64)) ∈ p_G := inC_9 27 rfl rfl
theorem w_1948 : (Jvm.Cond.methodLink "DriverHostLaw" (175 : Nat) ({ cls := "DriverHostModel", name := "run", desc := "(I)I" } : Jvm.MethodName)) ∈ p_G := inC_9 28 rfl rfl
theorem w_1949 : (Jvm.Cond.instanceMethod ({ cls := "DriverHostModel", name := "run", desc := "(I)I" } : Jvm.MethodName)) ∈ p_G := inC_9 29 rfl rfl
theorem w_1950 : (Jvm.Cond.selects "DriverHostModel" ({ cls := "DriverHostModel", name := "run", desc := "(I)I" } : Jvm.MethodName) ({ cls := "DriverHostModel", name := "run", desc := "(I)I" } : Jvm.MethodName)) ∈ p_G := inC_9 30 rfl rfl
theorem w_1951 : (Jvm.Cond.code ({ cls := "DriverHostModel", name := "run", desc := "(I)I" } : Jvm.MethodName) prog_14_method_118_code (4 : Nat) (Option.some Jvm.ClassFile.FieldType.int)) ∈ p_G := inC_9 31 rfl rfl
theorem w_1952 : (Jvm.Cond.constantLong "DriverHostModel" (489 : Nat) (1000 : Int64)) ∈ p_G := inC_9 32 rfl rfl
theorem w_1953 : (Jvm.Cond.methodLink "DriverHostModel" (491 : Nat) ({ cls := "DriverHostModel", name := "tick", desc := "([I)V" } : Jvm.MethodName)) ∈ p_G := inC_9 33 rfl rfl
theorem w_1955 : (Jvm.Cond.instanceMethod ({ cls := "DriverHostModel", name := "tick", desc := "([I)V" } : Jvm.MethodName)) ∈ p_G := inC_9 35 rfl rfl
theorem w_1956 : (Jvm.Cond.code ({ cls := "DriverHostModel", name := "tick", desc := "([I)V" } : Jvm.MethodName) prog_14_method_81_code (3 : Nat) (Option.none : Option Jvm.ClassFile.FieldType)) ∈ p_G := inC_9 36 rfl rfl
theorem w_1957 : (Jvm.Cond.methodLink "DriverHostModel" (454 : Nat) ({ cls := "DriverHostModel", name := "ticksOf", desc := "([II)V" } : Jvm.MethodName)) ∈ p_G := inC_9 37 rfl rfl
theorem w_1959 : (Jvm.Cond.instanceMethod ({ cls := "DriverHostModel", name := "ticksOf", desc := "([II)V" } : Jvm.MethodName)) ∈ p_G := inC_9 39 rfl rfl
theorem w_1960 : (Jvm.Cond.code ({ cls := "DriverHostModel", name := "ticksOf", desc := "([II)V" } : Jvm.MethodName) prog_14_method_80_code (3 : Nat) (Option.none : Option Jvm.ClassFile.FieldType)) ∈ p_G := inC_9 40 rfl rfl
theorem w_1961 : (Jvm.Cond.methodLink "DriverHostModel" (442 : Nat) ({ cls := "DriverHostModel", name := "restarts", desc := "([II)V" } : Jvm.MethodName)) ∈ p_G := inC_9 41 rfl rfl
theorem w_1963 : (Jvm.Cond.instanceMethod ({ cls := "DriverHostModel", name := "restarts", desc := "([II)V" } : Jvm.MethodName)) ∈ p_G := inC_9 43 rfl rfl
theorem w_1964 : (Jvm.Cond.code ({ cls := "DriverHostModel", name := "restarts", desc := "([II)V" } : Jvm.MethodName) prog_14_method_74_code (4 : Nat) (Option.none : Option Jvm.ClassFile.FieldType)) ∈ p_G := inC_9 44 rfl rfl
theorem w_1965 : (Jvm.Cond.methodLink "DriverHostModel" (398 : Nat) ({ cls := "DriverHostModel", name := "keepsIn", desc := "([II)V" } : Jvm.MethodName)) ∈ p_G := inC_9 45 rfl rfl
theorem w_1967 : (Jvm.Cond.instanceMethod ({ cls := "DriverHostModel", name := "keepsIn", desc := "([II)V" } : Jvm.MethodName)) ∈ p_G := inC_9 47 rfl rfl
theorem w_1968 : (Jvm.Cond.code ({ cls := "DriverHostModel", name := "keepsIn", desc := "([II)V" } : Jvm.MethodName) prog_14_method_65_code (4 : Nat) (Option.none : Option Jvm.ClassFile.FieldType)) ∈ p_G := inC_9 48 rfl rfl
theorem w_1969 : (Jvm.Cond.methodLink "DriverHostModel" (387 : Nat) ({ cls := "DriverHostModel", name := "goesThrough", desc := "([IIIIII)I" } : Jvm.MethodName)) ∈ p_G := inC_9 49 rfl rfl
theorem w_1971 : (Jvm.Cond.instanceMethod ({ cls := "DriverHostModel", name := "goesThrough", desc := "([IIIIII)I" } : Jvm.MethodName)) ∈ p_G := inC_9 51 rfl rfl
theorem w_1972 : (Jvm.Cond.code ({ cls := "DriverHostModel", name := "goesThrough", desc := "([IIIIII)I" } : Jvm.MethodName) prog_14_method_60_code (9 : Nat) (Option.some Jvm.ClassFile.FieldType.int)) ∈ p_G := inC_9 52 rfl rfl
theorem w_1973 : (Jvm.Cond.methodLink "DriverHostModel" (365 : Nat) ({ cls := "DriverHostModel", name := "reckons", desc := "(I)Z" } : Jvm.MethodName)) ∈ p_G := inC_9 53 rfl rfl
theorem w_1975 : (Jvm.Cond.instanceMethod ({ cls := "DriverHostModel", name := "reckons", desc := "(I)Z" } : Jvm.MethodName)) ∈ p_G := inC_9 55 rfl rfl
theorem w_1976 : (Jvm.Cond.code ({ cls := "DriverHostModel", name := "reckons", desc := "(I)Z" } : Jvm.MethodName) prog_14_method_58_code (2 : Nat) (Option.some Jvm.ClassFile.FieldType.boolean)) ∈ p_G := inC_9 56 rfl rfl
theorem w_1977 : (Jvm.Cond.constantLong "DriverHostModel" (359 : Nat) (28 : Int64)) ∈ p_G := inC_9 57 rfl rfl
theorem w_1978 : (Jvm.Cond.methodLink "DriverHostModel" (361 : Nat) ({ cls := "DriverHostModel", name := "joined", desc := "(III)I" } : Jvm.MethodName)) ∈ p_G := inC_9 58 rfl rfl
theorem w_1979 : (Jvm.Cond.static ({ cls := "DriverHostModel", name := "joined", desc := "(III)I" } : Jvm.MethodName)) ∈ p_G := inC_9 59 rfl rfl
theorem w_1980 : (Jvm.Cond.code ({ cls := "DriverHostModel", name := "joined", desc := "(III)I" } : Jvm.MethodName) prog_14_method_56_code (3 : Nat) (Option.some Jvm.ClassFile.FieldType.int)) ∈ p_G := inC_9 60 rfl rfl
theorem w_1981 : (Jvm.Cond.constantLong "DriverHostModel" (368 : Nat) (40 : Int64)) ∈ p_G := inC_9 61 rfl rfl
theorem w_1982 : (Jvm.Cond.constantLong "DriverHostModel" (370 : Nat) (47 : Int64)) ∈ p_G := inC_9 62 rfl rfl
theorem w_1983 : (Jvm.Cond.methodLink "DriverHostModel" (372 : Nat) ({ cls := "DriverHostModel", name := "cut", desc := "(I)I" } : Jvm.MethodName)) ∈ p_G := inC_9 63 rfl rfl
theorem w_1984 : (Jvm.Cond.static ({ cls := "DriverHostModel", name := "cut", desc := "(I)I" } : Jvm.MethodName)) ∈ p_G := inC_9 64 rfl rfl
theorem w_1985 : (Jvm.Cond.code ({ cls := "DriverHostModel", name := "cut", desc := "(I)I" } : Jvm.MethodName) prog_14_method_57_code (1 : Nat) (Option.some Jvm.ClassFile.FieldType.int)) ∈ p_G := inC_9 65 rfl rfl
theorem w_1986 : (Jvm.Cond.constantLong "DriverHostModel" (375 : Nat) (50 : Int64)) ∈ p_G := inC_9 66 rfl rfl
theorem w_1987 : (Jvm.Cond.constantLong "DriverHostModel" (377 : Nat) (53 : Int64)) ∈ p_G := inC_9 67 rfl rfl
theorem w_1988 : (Jvm.Cond.methodLink "DriverHostModel" (379 : Nat) ({ cls := "DriverHostModel", name := "factOf", desc := "([IIIII)I" } : Jvm.MethodName)) ∈ p_G := inC_9 68 rfl rfl
theorem w_1989 : (Jvm.Cond.static ({ cls := "DriverHostModel", name := "factOf", desc := "([IIIII)I" } : Jvm.MethodName)) ∈ p_G := inC_9 69 rfl rfl
theorem w_1990 : (Jvm.Cond.code ({ cls := "DriverHostModel", name := "factOf", desc := "([IIIII)I" } : Jvm.MethodName) prog_14_method_59_code (5 : Nat) (Option.some Jvm.ClassFile.FieldType.int)) ∈ p_G := inC_9 70 rfl rfl
theorem w_1991 : (Jvm.Cond.methodLink "DriverHostModel" (429 : Nat) ({ cls := "DriverHostModel", name := "decides", desc := "([III)V" } : Jvm.MethodName)) ∈ p_G := inC_9 71 rfl rfl
theorem w_1993 : (Jvm.Cond.instanceMethod ({ cls := "DriverHostModel", name := "decides", desc := "([III)V" } : Jvm.MethodName)) ∈ p_G := inC_9 73 rfl rfl
theorem w_1994 : (Jvm.Cond.code ({ cls := "DriverHostModel", name := "decides", desc := "([III)V" } : Jvm.MethodName) prog_14_method_73_code (5 : Nat) (Option.none : Option Jvm.ClassFile.FieldType)) ∈ p_G := inC_9 74 rfl rfl
theorem w_1995 : (Jvm.Cond.methodLink "DriverHostModel" (418 : Nat) ({ cls := "DriverHostModel", name := "isTrue", desc := "([II)Z" } : Jvm.MethodName)) ∈ p_G := inC_9 75 rfl rfl
theorem w_1997 : (Jvm.Cond.instanceMethod ({ cls := "DriverHostModel", name := "isTrue", desc := "([II)Z" } : Jvm.MethodName)) ∈ p_G := inC_9 77 rfl rfl
theorem w_1998 : (Jvm.Cond.code ({ cls := "DriverHostModel", name := "isTrue", desc := "([II)Z" } : Jvm.MethodName) prog_14_method_63_code (4 : Nat) (Option.some Jvm.ClassFile.FieldType.boolean)) ∈ p_G := inC_9 78 rfl rfl
theorem w_1999 : (Jvm.Cond.methodLink "DriverHostModel" (422 : Nat) ({ cls := "DriverHostModel", name := "resultOf", desc := "([II)I" } : Jvm.MethodName)) ∈ p_G := inC_9 79 rfl rfl
theorem w_2001 : (Jvm.Cond.instanceMethod ({ cls := "DriverHostModel", name := "resultOf", desc := "([II)I" } : Jvm.MethodName)) ∈ p_G := inC_9 81 rfl rfl
theorem w_2002 : (Jvm.Cond.code ({ cls := "DriverHostModel", name := "resultOf", desc := "([II)I" } : Jvm.MethodName) prog_14_method_64_code (4 : Nat) (Option.some Jvm.ClassFile.FieldType.int)) ∈ p_G := inC_9 82 rfl rfl
theorem w_2003 : (Jvm.Cond.methodLink "DriverHostModel" (426 : Nat) ({ cls := "DriverHostModel", name := "endsWell", desc := "([III)V" } : Jvm.MethodName)) ∈ p_G := inC_9 83 rfl rfl
theorem w_2005 : (Jvm.Cond.instanceMethod ({ cls := "DriverHostModel", name := "endsWell", desc := "([III)V" } : Jvm.MethodName)) ∈ p_G := inC_9 85 rfl rfl
theorem w_2006 : (Jvm.Cond.code ({ cls := "DriverHostModel", name := "endsWell", desc := "([III)V" } : Jvm.MethodName) prog_14_method_69_code (5 : Nat) (Option.none : Option Jvm.ClassFile.FieldType)) ∈ p_G := inC_9 86 rfl rfl
theorem w_2007 : (Jvm.Cond.methodLink "DriverHostModel" (445 : Nat) ({ cls := "DriverHostModel", name := "dropsLate", desc := "([II)V" } : Jvm.MethodName)) ∈ p_G := inC_9 87 rfl rfl
theorem w_2009 : (Jvm.Cond.instanceMethod ({ cls := "DriverHostModel", name := "dropsLate", desc := "([II)V" } : Jvm.MethodName)) ∈ p_G := inC_9 89 rfl rfl
theorem w_2010 : (Jvm.Cond.code ({ cls := "DriverHostModel", name := "dropsLate", desc := "([II)V" } : Jvm.MethodName) prog_14_method_76_code (5 : Nat) (Option.none : Option Jvm.ClassFile.FieldType)) ∈ p_G := inC_9 90 rfl rfl
theorem w_2011 : (Jvm.Cond.methodLink "DriverHostModel" (448 : Nat) ({ cls := "DriverHostModel", name := "begins", desc := "([II)V" } : Jvm.MethodName)) ∈ p_G := inC_9 91 rfl rfl
theorem w_2013 : (Jvm.Cond.instanceMethod ({ cls := "DriverHostModel", name := "begins", desc := "([II)V" } : Jvm.MethodName)) ∈ p_G := inC_9 93 rfl rfl
theorem w_2014 : (Jvm.Cond.code ({ cls := "DriverHostModel", name := "begins", desc := "([II)V" } : Jvm.MethodName) prog_14_method_77_code (4 : Nat) (Option.none : Option Jvm.ClassFile.FieldType)) ∈ p_G := inC_9 94 rfl rfl
theorem w_2015 : (Jvm.Cond.methodLink "DriverHostModel" (451 : Nat) ({ cls := "DriverHostModel", name := "goesOn", desc := "([II)V" } : Jvm.MethodName)) ∈ p_G := inC_9 95 rfl rfl
theorem w_2017 : (Jvm.Cond.instanceMethod ({ cls := "DriverHostModel", name := "goesOn", desc := "([II)V" } : Jvm.MethodName)) ∈ p_G := inC_9 97 rfl rfl
theorem w_2018 : (Jvm.Cond.code ({ cls := "DriverHostModel", name := "goesOn", desc := "([II)V" } : Jvm.MethodName) prog_14_method_79_code (6 : Nat) (Option.none : Option Jvm.ClassFile.FieldType)) ∈ p_G := inC_9 98 rfl rfl
theorem w_2019 : (Jvm.Cond.methodLink "DriverHostModel" (435 : Nat) ({ cls := "DriverHostModel", name := "isPlanned", desc := "([III)Z" } : Jvm.MethodName)) ∈ p_G := inC_9 99 rfl rfl
theorem w_2020 : (Jvm.Cond.static ({ cls := "DriverHostModel", name := "isPlanned", desc := "([III)Z" } : Jvm.MethodName)) ∈ p_G := inC_9 100 rfl rfl
theorem w_2021 : (Jvm.Cond.code ({ cls := "DriverHostModel", name := "isPlanned", desc := "([III)Z" } : Jvm.MethodName) prog_14_method_78_code (3 : Nat) (Option.some Jvm.ClassFile.FieldType.boolean)) ∈ p_G := inC_9 101 rfl rfl
theorem w_2022 : (Jvm.Cond.methodLink "DriverHostLaw" (243 : Nat) ({ cls := "DriverHostModel", name := "undoCount", desc := "()I" } : Jvm.MethodName)) ∈ p_G := inC_9 102 rfl rfl
theorem w_2023 : (Jvm.Cond.instanceMethod ({ cls := "DriverHostModel", name := "undoCount", desc := "()I" } : Jvm.MethodName)) ∈ p_G := inC_9 103 rfl rfl
theorem w_2024 : (Jvm.Cond.selects "DriverHostModel" ({ cls := "DriverHostModel", name := "undoCount", desc := "()I" } : Jvm.MethodName) ({ cls := "DriverHostModel", name := "undoCount", desc := "()I" } : Jvm.MethodName)) ∈ p_G := inC_9 104 rfl rfl
theorem w_2025 : (Jvm.Cond.code ({ cls := "DriverHostModel", name := "undoCount", desc := "()I" } : Jvm.MethodName) prog_14_method_119_code (1 : Nat) (Option.some Jvm.ClassFile.FieldType.int)) ∈ p_G := inC_9 105 rfl rfl
theorem w_2026 : (Jvm.Cond.methodLink "DriverHostLaw" (247 : Nat) ({ cls := "DriverHostModel", name := "undo", desc := "()I" } : Jvm.MethodName)) ∈ p_G := inC_9 106 rfl rfl
theorem w_2027 : (Jvm.Cond.instanceMethod ({ cls := "DriverHostModel", name := "undo", desc := "()I" } : Jvm.MethodName)) ∈ p_G := inC_9 107 rfl rfl
theorem w_2028 : (Jvm.Cond.selects "DriverHostModel" ({ cls := "DriverHostModel", name := "undo", desc := "()I" } : Jvm.MethodName) ({ cls := "DriverHostModel", name := "undo", desc := "()I" } : Jvm.MethodName)) ∈ p_G := inC_9 108 rfl rfl
theorem w_2029 : (Jvm.Cond.code ({ cls := "DriverHostModel", name := "undo", desc := "()I" } : Jvm.MethodName) prog_14_method_120_code (2 : Nat) (Option.some Jvm.ClassFile.FieldType.int)) ∈ p_G := inC_9 109 rfl rfl
theorem w_2030 : (Jvm.Cond.methodLink "DriverHostLaw" (251 : Nat) ({ cls := "DriverHostModel", name := "saveState", desc := "()V" } : Jvm.MethodName)) ∈ p_G := inC_9 110 rfl rfl
theorem w_2031 : (Jvm.Cond.instanceMethod ({ cls := "DriverHostModel", name := "saveState", desc := "()V" } : Jvm.MethodName)) ∈ p_G := inC_9 111 rfl rfl
theorem w_2032 : (Jvm.Cond.selects "DriverHostModel" ({ cls := "DriverHostModel", name := "saveState", desc := "()V" } : Jvm.MethodName) ({ cls := "DriverHostModel", name := "saveState", desc := "()V" } : Jvm.MethodName)) ∈ p_G := inC_9 112 rfl rfl
theorem w_2033 : (Jvm.Cond.code ({ cls := "DriverHostModel", name := "saveState", desc := "()V" } : Jvm.MethodName) prog_14_method_121_code (1 : Nat) (Option.none : Option Jvm.ClassFile.FieldType)) ∈ p_G := inC_9 113 rfl rfl
theorem w_2034 : (Jvm.Cond.methodLink "DriverHostModel" (494 : Nat) ({ cls := "DriverHostModel", name := "copy", desc := "([I[I)V" } : Jvm.MethodName)) ∈ p_G := inC_9 114 rfl rfl
theorem w_2035 : (Jvm.Cond.static ({ cls := "DriverHostModel", name := "copy", desc := "([I[I)V" } : Jvm.MethodName)) ∈ p_G := inC_9 115 rfl rfl
theorem w_2036 : (Jvm.Cond.code ({ cls := "DriverHostModel", name := "copy", desc := "([I[I)V" } : Jvm.MethodName) prog_14_method_9_code (3 : Nat) (Option.none : Option Jvm.ClassFile.FieldType)) ∈ p_G := inC_9 116 rfl rfl
theorem w_2037 : (Jvm.Cond.methodLink "DriverHostLaw" (256 : Nat) ({ cls := "DriverHostModel", name := "restoreState", desc := "()Z" } : Jvm.MethodName)) ∈ p_G := inC_9 117 rfl rfl
theorem w_2038 : (Jvm.Cond.instanceMethod ({ cls := "DriverHostModel", name := "restoreState", desc := "()Z" } : Jvm.MethodName)) ∈ p_G := inC_9 118 rfl rfl
theorem w_2039 : (Jvm.Cond.selects "DriverHostModel" ({ cls := "DriverHostModel", name := "restoreState", desc := "()Z" } : Jvm.MethodName) ({ cls := "DriverHostModel", name := "restoreState", desc := "()Z" } : Jvm.MethodName)) ∈ p_G := inC_9 119 rfl rfl
theorem w_2040 : (Jvm.Cond.code ({ cls := "DriverHostModel", name := "restoreState", desc := "()Z" } : Jvm.MethodName) prog_14_method_122_code (1 : Nat) (Option.some Jvm.ClassFile.FieldType.boolean)) ∈ p_G := inC_9 120 rfl rfl
theorem w_2041 : (Jvm.Cond.methodLink "DriverHostLaw" (233 : Nat) ({ cls := "DriverHostModel", name := "forecast", desc := "(I)I" } : Jvm.MethodName)) ∈ p_G := inC_9 121 rfl rfl
theorem w_2042 : (Jvm.Cond.instanceMethod ({ cls := "DriverHostModel", name := "forecast", desc := "(I)I" } : Jvm.MethodName)) ∈ p_G := inC_9 122 rfl rfl
theorem w_2043 : (Jvm.Cond.selects "DriverHostModel" ({ cls := "DriverHostModel", name := "forecast", desc := "(I)I" } : Jvm.MethodName) ({ cls := "DriverHostModel", name := "forecast", desc := "(I)I" } : Jvm.MethodName)) ∈ p_G := inC_9 123 rfl rfl
theorem w_2044 : (Jvm.Cond.code ({ cls := "DriverHostModel", name := "forecast", desc := "(I)I" } : Jvm.MethodName) prog_14_method_123_code (3 : Nat) (Option.some Jvm.ClassFile.FieldType.int)) ∈ p_G := inC_9 124 rfl rfl
theorem w_2045 : (Jvm.Cond.methodLink "DriverHostLaw" (236 : Nat) ({ cls := "DriverHostModel", name := "bestDelay", desc := "(I)I" } : Jvm.MethodName)) ∈ p_G := inC_9 125 rfl rfl
theorem w_2046 : (Jvm.Cond.instanceMethod ({ cls := "DriverHostModel", name := "bestDelay", desc := "(I)I" } : Jvm.MethodName)) ∈ p_G := inC_9 126 rfl rfl
theorem w_2047 : (Jvm.Cond.selects "DriverHostModel" ({ cls := "DriverHostModel", name := "bestDelay", desc := "(I)I" } : Jvm.MethodName) ({ cls := "DriverHostModel", name := "bestDelay", desc := "(I)I" } : Jvm.MethodName)) ∈ p_G := inC_9 127 rfl rfl
theorem w_2048 : (Jvm.Cond.code ({ cls := "DriverHostModel", name := "bestDelay", desc := "(I)I" } : Jvm.MethodName) prog_14_method_124_code (7 : Nat) (Option.some Jvm.ClassFile.FieldType.int)) ∈ p_G := inC_9 128 rfl rfl
theorem w_2049 : (Jvm.Cond.constantLong "DriverHostModel" (498 : Nat) (200 : Int64)) ∈ p_G := inC_9 129 rfl rfl
theorem w_2050 : (Jvm.Cond.methodLink "DriverHostLaw" (239 : Nat) ({ cls := "DriverHostModel", name := "decision", desc := "(I)I" } : Jvm.MethodName)) ∈ p_G := inC_9 130 rfl rfl
theorem w_2051 : (Jvm.Cond.instanceMethod ({ cls := "DriverHostModel", name := "decision", desc := "(I)I" } : Jvm.MethodName)) ∈ p_G := inC_9 131 rfl rfl
theorem w_2052 : (Jvm.Cond.selects "DriverHostModel" ({ cls := "DriverHostModel", name := "decision", desc := "(I)I" } : Jvm.MethodName) ({ cls := "DriverHostModel", name := "decision", desc := "(I)I" } : Jvm.MethodName)) ∈ p_G := inC_9 132 rfl rfl
theorem w_2053 : (Jvm.Cond.code ({ cls := "DriverHostModel", name := "decision", desc := "(I)I" } : Jvm.MethodName) prog_14_method_125_code (3 : Nat) (Option.some Jvm.ClassFile.FieldType.int)) ∈ p_G := inC_9 133 rfl rfl
theorem w_2054 : (Jvm.Cond.methodLink "DriverHostLaw" (259 : Nat) ({ cls := "DriverHostModel", name := "query", desc := "(I)I" } : Jvm.MethodName)) ∈ p_G := inC_9 134 rfl rfl
theorem w_2055 : (Jvm.Cond.instanceMethod ({ cls := "DriverHostModel", name := "query", desc := "(I)I" } : Jvm.MethodName)) ∈ p_G := inC_9 135 rfl rfl
theorem w_2056 : (Jvm.Cond.selects "DriverHostModel" ({ cls := "DriverHostModel", name := "query", desc := "(I)I" } : Jvm.MethodName) ({ cls := "DriverHostModel", name := "query", desc := "(I)I" } : Jvm.MethodName)) ∈ p_G := inC_9 136 rfl rfl
theorem w_2057 : (Jvm.Cond.code ({ cls := "DriverHostModel", name := "query", desc := "(I)I" } : Jvm.MethodName) prog_14_method_128_code (5 : Nat) (Option.some Jvm.ClassFile.FieldType.int)) ∈ p_G := inC_9 137 rfl rfl
theorem w_2058 : (Jvm.Cond.constant "DriverHostModel" (503 : Nat) (-1000000000 : Int32)) ∈ p_G := inC_9 138 rfl rfl
theorem w_2059 : (Jvm.Cond.methodLink "DriverHostModel" (504 : Nat) ({ cls := "DriverHostModel", name := "holds", desc := "(I)Z" } : Jvm.MethodName)) ∈ p_G := inC_9 139 rfl rfl
theorem w_2061 : (Jvm.Cond.instanceMethod ({ cls := "DriverHostModel", name := "holds", desc := "(I)Z" } : Jvm.MethodName)) ∈ p_G := inC_9 141 rfl rfl
theorem w_2062 : (Jvm.Cond.code ({ cls := "DriverHostModel", name := "holds", desc := "(I)Z" } : Jvm.MethodName) prog_14_method_127_code (4 : Nat) (Option.some Jvm.ClassFile.FieldType.boolean)) ∈ p_G := inC_9 142 rfl rfl
theorem w_2063 : (Jvm.Cond.methodLink "DriverHostModel" (500 : Nat) ({ cls := "DriverHostModel", name := "propertyOf", desc := "(II)I" } : Jvm.MethodName)) ∈ p_G := inC_9 143 rfl rfl
theorem w_2065 : (Jvm.Cond.instanceMethod ({ cls := "DriverHostModel", name := "propertyOf", desc := "(II)I" } : Jvm.MethodName)) ∈ p_G := inC_9 145 rfl rfl
theorem w_2066 : (Jvm.Cond.code ({ cls := "DriverHostModel", name := "propertyOf", desc := "(II)I" } : Jvm.MethodName) prog_14_method_126_code (3 : Nat) (Option.some Jvm.ClassFile.FieldType.int)) ∈ p_G := inC_9 146 rfl rfl
theorem w_2067 : (Jvm.Cond.arrayClass Jvm.ClassFile.FieldType.long) ∈ p_G := inC_9 147 rfl rfl
theorem w_2068 : (Jvm.Cond.arrayClass Jvm.ClassFile.FieldType.double) ∈ p_G := inC_9 148 rfl rfl
theorem w_2090 : (Jvm.Cond.fieldLink "DriverHost$Reader" (236 : Nat) "DriverHost$Word" "commandClass" "I") ∈ p_G := inC_9 170 rfl rfl
theorem w_2091 : (Jvm.Cond.fieldLink "DriverHost$Reader" (268 : Nat) "DriverHost$Word" "property" "I") ∈ p_G := inC_9 171 rfl rfl
theorem w_2092 : (Jvm.Cond.fieldLink "DriverHost$Reader" (119 : Nat) "DriverHost$Word" "isSetting" "Z") ∈ p_G := inC_9 172 rfl rfl
theorem ws_0 : Cond.selects "DriverHost" ({ cls := "DriverHost", name := "append", desc := "(I)V" } : Jvm.MethodName) ({ cls := "DriverHost", name := "append", desc := "(I)V" } : Jvm.MethodName) ∈ p_G := inG_s 0 rfl rfl
theorem ws_2 : Cond.selects "DriverHost$Tokens" ({ cls := "DriverHost$Tokens", name := "endOf", desc := "(I)I" } : Jvm.MethodName) ({ cls := "DriverHost$Tokens", name := "endOf", desc := "(I)I" } : Jvm.MethodName) ∈ p_G := inG_s 2 rfl rfl
theorem ws_3 : Cond.selects "DriverHost$Tokens" ({ cls := "DriverHost$Tokens", name := "add", desc := "(II)V" } : Jvm.MethodName) ({ cls := "DriverHost$Tokens", name := "add", desc := "(II)V" } : Jvm.MethodName) ∈ p_G := inG_s 3 rfl rfl
theorem ws_5 : Cond.selects "DriverHost$Tokens" ({ cls := "DriverHost$Tokens", name := "numberOf", desc := "(II)I" } : Jvm.MethodName) ({ cls := "DriverHost$Tokens", name := "numberOf", desc := "(II)I" } : Jvm.MethodName) ∈ p_G := inG_s 5 rfl rfl
theorem ws_6 : Cond.selects "DriverHost$Reader" ({ cls := "DriverHost$Reader", name := "takeWord", desc := "(LDriverHost$Word;)V" } : Jvm.MethodName) ({ cls := "DriverHost$Reader", name := "takeWord", desc := "(LDriverHost$Word;)V" } : Jvm.MethodName) ∈ p_G := inG_s 6 rfl rfl
theorem ws_7 : Cond.selects "DriverHost$Reader" ({ cls := "DriverHost$Reader", name := "takeNumber", desc := "(II)I" } : Jvm.MethodName) ({ cls := "DriverHost$Reader", name := "takeNumber", desc := "(II)I" } : Jvm.MethodName) ∈ p_G := inG_s 7 rfl rfl
theorem ws_8 : Cond.selects "DriverHost$Reader" ({ cls := "DriverHost$Reader", name := "takeSign", desc := "(C)V" } : Jvm.MethodName) ({ cls := "DriverHost$Reader", name := "takeSign", desc := "(C)V" } : Jvm.MethodName) ∈ p_G := inG_s 8 rfl rfl
theorem ws_9 : Cond.selects "DriverHost$Reader" ({ cls := "DriverHost$Reader", name := "readClause", desc := "()V" } : Jvm.MethodName) ({ cls := "DriverHost$Reader", name := "readClause", desc := "()V" } : Jvm.MethodName) ∈ p_G := inG_s 9 rfl rfl
theorem ws_10 : Cond.selects "DriverHost$Reader" ({ cls := "DriverHost$Reader", name := "readCommand", desc := "()V" } : Jvm.MethodName) ({ cls := "DriverHost$Reader", name := "readCommand", desc := "()V" } : Jvm.MethodName) ∈ p_G := inG_s 10 rfl rfl
theorem ws_11 : Cond.selects "DriverHost$Reader" ({ cls := "DriverHost$Reader", name := "readName", desc := "(LDriverHost$Command;)V" } : Jvm.MethodName) ({ cls := "DriverHost$Reader", name := "readName", desc := "(LDriverHost$Command;)V" } : Jvm.MethodName) ∈ p_G := inG_s 11 rfl rfl
theorem ws_12 : Cond.selects "DriverHost$Reader" ({ cls := "DriverHost$Reader", name := "readClass", desc := "(LDriverHost$Command;)V" } : Jvm.MethodName) ({ cls := "DriverHost$Reader", name := "readClass", desc := "(LDriverHost$Command;)V" } : Jvm.MethodName) ∈ p_G := inG_s 12 rfl rfl
theorem ws_13 : Cond.selects "DriverHost$Reader" ({ cls := "DriverHost$Reader", name := "readTest", desc := "()V" } : Jvm.MethodName) ({ cls := "DriverHost$Reader", name := "readTest", desc := "()V" } : Jvm.MethodName) ∈ p_G := inG_s 13 rfl rfl
theorem ws_14 : Cond.selects "DriverHost$Reader" ({ cls := "DriverHost$Reader", name := "readConjunction", desc := "()V" } : Jvm.MethodName) ({ cls := "DriverHost$Reader", name := "readConjunction", desc := "()V" } : Jvm.MethodName) ∈ p_G := inG_s 14 rfl rfl
theorem ws_15 : Cond.selects "DriverHost$Reader" ({ cls := "DriverHost$Reader", name := "readFactor", desc := "()V" } : Jvm.MethodName) ({ cls := "DriverHost$Reader", name := "readFactor", desc := "()V" } : Jvm.MethodName) ∈ p_G := inG_s 15 rfl rfl
theorem ws_16 : Cond.selects "DriverHost$Reader" ({ cls := "DriverHost$Reader", name := "opens", desc := "()Z" } : Jvm.MethodName) ({ cls := "DriverHost$Reader", name := "opens", desc := "()Z" } : Jvm.MethodName) ∈ p_G := inG_s 16 rfl rfl
theorem ws_17 : Cond.selects "DriverHost$Reader" ({ cls := "DriverHost$Reader", name := "readProperty", desc := "()V" } : Jvm.MethodName) ({ cls := "DriverHost$Reader", name := "readProperty", desc := "()V" } : Jvm.MethodName) ∈ p_G := inG_s 17 rfl rfl
theorem ws_18 : Cond.selects "DriverHost$Reader" ({ cls := "DriverHost$Reader", name := "takeComparison", desc := "()I" } : Jvm.MethodName) ({ cls := "DriverHost$Reader", name := "takeComparison", desc := "()I" } : Jvm.MethodName) ∈ p_G := inG_s 18 rfl rfl
theorem ws_19 : Cond.selects "DriverHost$Reader" ({ cls := "DriverHost$Reader", name := "readSum", desc := "()V" } : Jvm.MethodName) ({ cls := "DriverHost$Reader", name := "readSum", desc := "()V" } : Jvm.MethodName) ∈ p_G := inG_s 19 rfl rfl
theorem ws_20 : Cond.selects "DriverHost$Reader" ({ cls := "DriverHost$Reader", name := "readProduct", desc := "()V" } : Jvm.MethodName) ({ cls := "DriverHost$Reader", name := "readProduct", desc := "()V" } : Jvm.MethodName) ∈ p_G := inG_s 20 rfl rfl
theorem ws_21 : Cond.selects "DriverHost$Reader" ({ cls := "DriverHost$Reader", name := "readOperand", desc := "()V" } : Jvm.MethodName) ({ cls := "DriverHost$Reader", name := "readOperand", desc := "()V" } : Jvm.MethodName) ∈ p_G := inG_s 21 rfl rfl
theorem ws_22 : Cond.selects "DriverHost$Reader" ({ cls := "DriverHost$Reader", name := "readStores", desc := "(LDriverHost$Word;II)V" } : Jvm.MethodName) ({ cls := "DriverHost$Reader", name := "readStores", desc := "(LDriverHost$Word;II)V" } : Jvm.MethodName) ∈ p_G := inG_s 22 rfl rfl
theorem ws_23 : Cond.selects "DriverHost$World" ({ cls := "DriverHost$World", name := "leaveQueue", desc := "(LDriverHost$Driver;LDriverHost$Request;)V" } : Jvm.MethodName) ({ cls := "DriverHost$World", name := "leaveQueue", desc := "(LDriverHost$Driver;LDriverHost$Request;)V" } : Jvm.MethodName) ∈ p_G := inG_s 23 rfl rfl
theorem ws_24 : Cond.selects "DriverHost$World" ({ cls := "DriverHost$World", name := "strike", desc := "(LDriverHost$Request;)V" } : Jvm.MethodName) ({ cls := "DriverHost$World", name := "strike", desc := "(LDriverHost$Request;)V" } : Jvm.MethodName) ∈ p_G := inG_s 24 rfl rfl
theorem ws_25 : Cond.selects "DriverHost$World" ({ cls := "DriverHost$World", name := "die", desc := "(LDriverHost$Driver;)V" } : Jvm.MethodName) ({ cls := "DriverHost$World", name := "die", desc := "(LDriverHost$Driver;)V" } : Jvm.MethodName) ∈ p_G := inG_s 25 rfl rfl
theorem ws_26 : Cond.selects "DriverHost$World" ({ cls := "DriverHost$World", name := "delayFor", desc := "(I)I" } : Jvm.MethodName) ({ cls := "DriverHost$World", name := "delayFor", desc := "(I)I" } : Jvm.MethodName) ∈ p_G := inG_s 26 rfl rfl
theorem ws_27 : Cond.selects "DriverHost$World" ({ cls := "DriverHost$World", name := "step", desc := "(LDriverHost$Driver;)V" } : Jvm.MethodName) ({ cls := "DriverHost$World", name := "step", desc := "(LDriverHost$Driver;)V" } : Jvm.MethodName) ∈ p_G := inG_s 27 rfl rfl
theorem ws_28 : Cond.selects "DriverHost$World" ({ cls := "DriverHost$World", name := "restart", desc := "(LDriverHost$Driver;)V" } : Jvm.MethodName) ({ cls := "DriverHost$World", name := "restart", desc := "(LDriverHost$Driver;)V" } : Jvm.MethodName) ∈ p_G := inG_s 28 rfl rfl
theorem ws_29 : Cond.selects "DriverHost$World" ({ cls := "DriverHost$World", name := "doKeepings", desc := "(LDriverHost$Driver;LDriverHost$Request;)V" } : Jvm.MethodName) ({ cls := "DriverHost$World", name := "doKeepings", desc := "(LDriverHost$Driver;LDriverHost$Request;)V" } : Jvm.MethodName) ∈ p_G := inG_s 29 rfl rfl
theorem ws_30 : Cond.selects "DriverHost$World" ({ cls := "DriverHost$World", name := "resultNow", desc := "(LDriverHost$Driver;LDriverHost$Request;)I" } : Jvm.MethodName) ({ cls := "DriverHost$World", name := "resultNow", desc := "(LDriverHost$Driver;LDriverHost$Request;)I" } : Jvm.MethodName) ∈ p_G := inG_s 30 rfl rfl
theorem ws_31 : Cond.selects "DriverHost$World" ({ cls := "DriverHost$World", name := "complete", desc := "(LDriverHost$Driver;LDriverHost$Request;I)V" } : Jvm.MethodName) ({ cls := "DriverHost$World", name := "complete", desc := "(LDriverHost$Driver;LDriverHost$Request;I)V" } : Jvm.MethodName) ∈ p_G := inG_s 31 rfl rfl
theorem ws_32 : Cond.selects "DriverHost$World" ({ cls := "DriverHost$World", name := "failLate", desc := "(LDriverHost$Driver;)V" } : Jvm.MethodName) ({ cls := "DriverHost$World", name := "failLate", desc := "(LDriverHost$Driver;)V" } : Jvm.MethodName) ∈ p_G := inG_s 32 rfl rfl
theorem ws_33 : Cond.selects "DriverHost$World" ({ cls := "DriverHost$World", name := "begin", desc := "(LDriverHost$Driver;)V" } : Jvm.MethodName) ({ cls := "DriverHost$World", name := "begin", desc := "(LDriverHost$Driver;)V" } : Jvm.MethodName) ∈ p_G := inG_s 33 rfl rfl
theorem ws_34 : Cond.selects "DriverHost$World" ({ cls := "DriverHost$World", name := "work", desc := "(LDriverHost$Driver;LDriverHost$Request;)V" } : Jvm.MethodName) ({ cls := "DriverHost$World", name := "work", desc := "(LDriverHost$Driver;LDriverHost$Request;)V" } : Jvm.MethodName) ∈ p_G := inG_s 34 rfl rfl
theorem ws_35 : Cond.selects "DriverHost$World" ({ cls := "DriverHost$World", name := "doEffect", desc := "(LDriverHost$Driver;LDriverHost$Request;)I" } : Jvm.MethodName) ({ cls := "DriverHost$World", name := "doEffect", desc := "(LDriverHost$Driver;LDriverHost$Request;)I" } : Jvm.MethodName) ∈ p_G := inG_s 35 rfl rfl
theorem ws_36 : Cond.selects "DriverHost" ({ cls := "DriverHost", name := "freshTrial", desc := "()LDriverHost$World;" } : Jvm.MethodName) ({ cls := "DriverHost", name := "freshTrial", desc := "()LDriverHost$World;" } : Jvm.MethodName) ∈ p_G := inG_s 36 rfl rfl
theorem ws_37 : Cond.selects "DriverHost" ({ cls := "DriverHost", name := "firstMatch", desc := "(LDriverHost$Code;)I" } : Jvm.MethodName) ({ cls := "DriverHost", name := "firstMatch", desc := "(LDriverHost$Code;)I" } : Jvm.MethodName) ∈ p_G := inG_s 37 rfl rfl
theorem ws_38 : Cond.selects "DriverHost" ({ cls := "DriverHost", name := "countMatches", desc := "(LDriverHost$Code;)I" } : Jvm.MethodName) ({ cls := "DriverHost", name := "countMatches", desc := "(LDriverHost$Code;)I" } : Jvm.MethodName) ∈ p_G := inG_s 38 rfl rfl
theorem ws_39 : Cond.selects "DriverHostModel" ({ cls := "DriverHostModel", name := "standard", desc := "()V" } : Jvm.MethodName) ({ cls := "DriverHostModel", name := "standard", desc := "()V" } : Jvm.MethodName) ∈ p_G := inG_s 39 rfl rfl
theorem ws_40 : Cond.selects "DriverHostModel" ({ cls := "DriverHostModel", name := "takesOver", desc := "()V" } : Jvm.MethodName) ({ cls := "DriverHostModel", name := "takesOver", desc := "()V" } : Jvm.MethodName) ∈ p_G := inG_s 40 rfl rfl
theorem ws_41 : Cond.selects "DriverHostModel" ({ cls := "DriverHostModel", name := "lays", desc := "(I)V" } : Jvm.MethodName) ({ cls := "DriverHostModel", name := "lays", desc := "(I)V" } : Jvm.MethodName) ∈ p_G := inG_s 41 rfl rfl
theorem ws_42 : Cond.selects "DriverHostModel" ({ cls := "DriverHostModel", name := "fails", desc := "(ZI)Z" } : Jvm.MethodName) ({ cls := "DriverHostModel", name := "fails", desc := "(ZI)Z" } : Jvm.MethodName) ∈ p_G := inG_s 42 rfl rfl
theorem ws_43 : Cond.selects "DriverHostModel" ({ cls := "DriverHostModel", name := "starts", desc := "(I)V" } : Jvm.MethodName) ({ cls := "DriverHostModel", name := "starts", desc := "(I)V" } : Jvm.MethodName) ∈ p_G := inG_s 43 rfl rfl
theorem ws_44 : Cond.selects "DriverHostModel" ({ cls := "DriverHostModel", name := "next", desc := "()V" } : Jvm.MethodName) ({ cls := "DriverHostModel", name := "next", desc := "()V" } : Jvm.MethodName) ∈ p_G := inG_s 44 rfl rfl
theorem ws_45 : Cond.selects "DriverHostModel" ({ cls := "DriverHostModel", name := "byteAt", desc := "(I)I" } : Jvm.MethodName) ({ cls := "DriverHostModel", name := "byteAt", desc := "(I)I" } : Jvm.MethodName) ∈ p_G := inG_s 45 rfl rfl
theorem ws_46 : Cond.selects "DriverHostModel" ({ cls := "DriverHostModel", name := "readsWord", desc := "()V" } : Jvm.MethodName) ({ cls := "DriverHostModel", name := "readsWord", desc := "()V" } : Jvm.MethodName) ∈ p_G := inG_s 46 rfl rfl
theorem ws_47 : Cond.selects "DriverHostModel" ({ cls := "DriverHostModel", name := "readsNumber", desc := "()V" } : Jvm.MethodName) ({ cls := "DriverHostModel", name := "readsNumber", desc := "()V" } : Jvm.MethodName) ∈ p_G := inG_s 47 rfl rfl
theorem ws_48 : Cond.selects "DriverHostModel" ({ cls := "DriverHostModel", name := "passes", desc := "(J)Z" } : Jvm.MethodName) ({ cls := "DriverHostModel", name := "passes", desc := "(J)Z" } : Jvm.MethodName) ∈ p_G := inG_s 48 rfl rfl
theorem ws_49 : Cond.selects "DriverHostModel" ({ cls := "DriverHostModel", name := "isWord", desc := "(J)Z" } : Jvm.MethodName) ({ cls := "DriverHostModel", name := "isWord", desc := "(J)Z" } : Jvm.MethodName) ∈ p_G := inG_s 49 rfl rfl
theorem ws_50 : Cond.selects "DriverHostModel" ({ cls := "DriverHostModel", name := "isGood", desc := "()Z" } : Jvm.MethodName) ({ cls := "DriverHostModel", name := "isGood", desc := "()Z" } : Jvm.MethodName) ∈ p_G := inG_s 50 rfl rfl
theorem ws_51 : Cond.selects "DriverHostModel" ({ cls := "DriverHostModel", name := "wrongs", desc := "(I)Z" } : Jvm.MethodName) ({ cls := "DriverHostModel", name := "wrongs", desc := "(I)Z" } : Jvm.MethodName) ∈ p_G := inG_s 51 rfl rfl
theorem ws_52 : Cond.selects "DriverHostModel" ({ cls := "DriverHostModel", name := "number", desc := "(II)I" } : Jvm.MethodName) ({ cls := "DriverHostModel", name := "number", desc := "(II)I" } : Jvm.MethodName) ∈ p_G := inG_s 52 rfl rfl
theorem ws_53 : Cond.selects "DriverHostModel" ({ cls := "DriverHostModel", name := "must", desc := "(I)V" } : Jvm.MethodName) ({ cls := "DriverHostModel", name := "must", desc := "(I)V" } : Jvm.MethodName) ∈ p_G := inG_s 53 rfl rfl
theorem ws_54 : Cond.selects "DriverHostModel" ({ cls := "DriverHostModel", name := "isByte", desc := "(I)Z" } : Jvm.MethodName) ({ cls := "DriverHostModel", name := "isByte", desc := "(I)Z" } : Jvm.MethodName) ∈ p_G := inG_s 54 rfl rfl
theorem ws_55 : Cond.selects "DriverHostModel" ({ cls := "DriverHostModel", name := "clause", desc := "()V" } : Jvm.MethodName) ({ cls := "DriverHostModel", name := "clause", desc := "()V" } : Jvm.MethodName) ∈ p_G := inG_s 55 rfl rfl
theorem ws_56 : Cond.selects "DriverHostModel" ({ cls := "DriverHostModel", name := "commandClause", desc := "()V" } : Jvm.MethodName) ({ cls := "DriverHostModel", name := "commandClause", desc := "()V" } : Jvm.MethodName) ∈ p_G := inG_s 56 rfl rfl
theorem ws_57 : Cond.selects "DriverHostModel" ({ cls := "DriverHostModel", name := "nameRead", desc := "(I)V" } : Jvm.MethodName) ({ cls := "DriverHostModel", name := "nameRead", desc := "(I)V" } : Jvm.MethodName) ∈ p_G := inG_s 57 rfl rfl
theorem ws_58 : Cond.selects "DriverHostModel" ({ cls := "DriverHostModel", name := "isName", desc := "()Z" } : Jvm.MethodName) ({ cls := "DriverHostModel", name := "isName", desc := "()Z" } : Jvm.MethodName) ∈ p_G := inG_s 58 rfl rfl
theorem ws_59 : Cond.selects "DriverHostModel" ({ cls := "DriverHostModel", name := "isClauseWord", desc := "()Z" } : Jvm.MethodName) ({ cls := "DriverHostModel", name := "isClauseWord", desc := "()Z" } : Jvm.MethodName) ∈ p_G := inG_s 59 rfl rfl
theorem ws_60 : Cond.selects "DriverHostModel" ({ cls := "DriverHostModel", name := "isInnerWord", desc := "()Z" } : Jvm.MethodName) ({ cls := "DriverHostModel", name := "isInnerWord", desc := "()Z" } : Jvm.MethodName) ∈ p_G := inG_s 60 rfl rfl
theorem ws_61 : Cond.selects "DriverHostModel" ({ cls := "DriverHostModel", name := "classHere", desc := "()I" } : Jvm.MethodName) ({ cls := "DriverHostModel", name := "classHere", desc := "()I" } : Jvm.MethodName) ∈ p_G := inG_s 61 rfl rfl
theorem ws_62 : Cond.selects "DriverHostModel" ({ cls := "DriverHostModel", name := "propertyHere", desc := "()I" } : Jvm.MethodName) ({ cls := "DriverHostModel", name := "propertyHere", desc := "()I" } : Jvm.MethodName) ∈ p_G := inG_s 62 rfl rfl
theorem ws_63 : Cond.selects "DriverHostModel" ({ cls := "DriverHostModel", name := "isNamed", desc := "(I)Z" } : Jvm.MethodName) ({ cls := "DriverHostModel", name := "isNamed", desc := "(I)Z" } : Jvm.MethodName) ∈ p_G := inG_s 63 rfl rfl
theorem ws_64 : Cond.selects "DriverHostModel" ({ cls := "DriverHostModel", name := "classRead", desc := "(I)V" } : Jvm.MethodName) ({ cls := "DriverHostModel", name := "classRead", desc := "(I)V" } : Jvm.MethodName) ∈ p_G := inG_s 64 rfl rfl
theorem ws_65 : Cond.selects "DriverHostModel" ({ cls := "DriverHostModel", name := "testRead", desc := "()V" } : Jvm.MethodName) ({ cls := "DriverHostModel", name := "testRead", desc := "()V" } : Jvm.MethodName) ∈ p_G := inG_s 65 rfl rfl
theorem ws_66 : Cond.selects "DriverHostModel" ({ cls := "DriverHostModel", name := "comparisonRead", desc := "()V" } : Jvm.MethodName) ({ cls := "DriverHostModel", name := "comparisonRead", desc := "()V" } : Jvm.MethodName) ∈ p_G := inG_s 66 rfl rfl
theorem ws_67 : Cond.selects "DriverHostModel" ({ cls := "DriverHostModel", name := "isOpening", desc := "()Z" } : Jvm.MethodName) ({ cls := "DriverHostModel", name := "isOpening", desc := "()Z" } : Jvm.MethodName) ∈ p_G := inG_s 67 rfl rfl
theorem ws_68 : Cond.selects "DriverHostModel" ({ cls := "DriverHostModel", name := "goesIn", desc := "(I)Z" } : Jvm.MethodName) ({ cls := "DriverHostModel", name := "goesIn", desc := "(I)Z" } : Jvm.MethodName) ∈ p_G := inG_s 68 rfl rfl
theorem ws_69 : Cond.selects "DriverHostModel" ({ cls := "DriverHostModel", name := "sideRead", desc := "()V" } : Jvm.MethodName) ({ cls := "DriverHostModel", name := "sideRead", desc := "()V" } : Jvm.MethodName) ∈ p_G := inG_s 69 rfl rfl
theorem ws_70 : Cond.selects "DriverHostModel" ({ cls := "DriverHostModel", name := "valueRead", desc := "()V" } : Jvm.MethodName) ({ cls := "DriverHostModel", name := "valueRead", desc := "()V" } : Jvm.MethodName) ∈ p_G := inG_s 70 rfl rfl
theorem ws_71 : Cond.selects "DriverHostModel" ({ cls := "DriverHostModel", name := "adds", desc := "(I)V" } : Jvm.MethodName) ({ cls := "DriverHostModel", name := "adds", desc := "(I)V" } : Jvm.MethodName) ∈ p_G := inG_s 71 rfl rfl
theorem ws_72 : Cond.selects "DriverHostModel" ({ cls := "DriverHostModel", name := "sumRead", desc := "()V" } : Jvm.MethodName) ({ cls := "DriverHostModel", name := "sumRead", desc := "()V" } : Jvm.MethodName) ∈ p_G := inG_s 72 rfl rfl
theorem ws_73 : Cond.selects "DriverHostModel" ({ cls := "DriverHostModel", name := "operandRead", desc := "()V" } : Jvm.MethodName) ({ cls := "DriverHostModel", name := "operandRead", desc := "()V" } : Jvm.MethodName) ∈ p_G := inG_s 73 rfl rfl
theorem ws_74 : Cond.selects "DriverHostModel" ({ cls := "DriverHostModel", name := "hasBracket", desc := "(I)Z" } : Jvm.MethodName) ({ cls := "DriverHostModel", name := "hasBracket", desc := "(I)Z" } : Jvm.MethodName) ∈ p_G := inG_s 74 rfl rfl
theorem ws_75 : Cond.selects "DriverHostModel" ({ cls := "DriverHostModel", name := "sumSettles", desc := "(II)V" } : Jvm.MethodName) ({ cls := "DriverHostModel", name := "sumSettles", desc := "(II)V" } : Jvm.MethodName) ∈ p_G := inG_s 75 rfl rfl
theorem ws_76 : Cond.selects "DriverHostModel" ({ cls := "DriverHostModel", name := "operatorHere", desc := "()I" } : Jvm.MethodName) ({ cls := "DriverHostModel", name := "operatorHere", desc := "()I" } : Jvm.MethodName) ∈ p_G := inG_s 76 rfl rfl
theorem ws_77 : Cond.selects "DriverHostModel" ({ cls := "DriverHostModel", name := "closes", desc := "()V" } : Jvm.MethodName) ({ cls := "DriverHostModel", name := "closes", desc := "()V" } : Jvm.MethodName) ∈ p_G := inG_s 77 rfl rfl
theorem ws_78 : Cond.selects "DriverHostModel" ({ cls := "DriverHostModel", name := "settles", desc := "(I)V" } : Jvm.MethodName) ({ cls := "DriverHostModel", name := "settles", desc := "(I)V" } : Jvm.MethodName) ∈ p_G := inG_s 78 rfl rfl
theorem ws_79 : Cond.selects "DriverHostModel" ({ cls := "DriverHostModel", name := "isInside", desc := "()Z" } : Jvm.MethodName) ({ cls := "DriverHostModel", name := "isInside", desc := "()Z" } : Jvm.MethodName) ∈ p_G := inG_s 79 rfl rfl
theorem ws_80 : Cond.selects "DriverHostModel" ({ cls := "DriverHostModel", name := "storesRead", desc := "(JIII)V" } : Jvm.MethodName) ({ cls := "DriverHostModel", name := "storesRead", desc := "(JIII)V" } : Jvm.MethodName) ∈ p_G := inG_s 80 rfl rfl
theorem ws_81 : Cond.selects "DriverHostModel" ({ cls := "DriverHostModel", name := "isCommand", desc := "(I)Z" } : Jvm.MethodName) ({ cls := "DriverHostModel", name := "isCommand", desc := "(I)Z" } : Jvm.MethodName) ∈ p_G := inG_s 81 rfl rfl
theorem ws_82 : Cond.selects "DriverHostModel" ({ cls := "DriverHostModel", name := "noDriver", desc := "(I)Z" } : Jvm.MethodName) ({ cls := "DriverHostModel", name := "noDriver", desc := "(I)Z" } : Jvm.MethodName) ∈ p_G := inG_s 82 rfl rfl
theorem ws_83 : Cond.selects "DriverHostModel" ({ cls := "DriverHostModel", name := "isDriver", desc := "(I)Z" } : Jvm.MethodName) ({ cls := "DriverHostModel", name := "isDriver", desc := "(I)Z" } : Jvm.MethodName) ∈ p_G := inG_s 83 rfl rfl
theorem ws_84 : Cond.selects "DriverHostModel" ({ cls := "DriverHostModel", name := "nextOf", desc := "([II)I" } : Jvm.MethodName) ({ cls := "DriverHostModel", name := "nextOf", desc := "([II)I" } : Jvm.MethodName) ∈ p_G := inG_s 84 rfl rfl
theorem ws_85 : Cond.selects "DriverHostModel" ({ cls := "DriverHostModel", name := "noRequest", desc := "(I)Z" } : Jvm.MethodName) ({ cls := "DriverHostModel", name := "noRequest", desc := "(I)Z" } : Jvm.MethodName) ∈ p_G := inG_s 85 rfl rfl
theorem ws_86 : Cond.selects "DriverHostModel" ({ cls := "DriverHostModel", name := "isRequest", desc := "(I)Z" } : Jvm.MethodName) ({ cls := "DriverHostModel", name := "isRequest", desc := "(I)Z" } : Jvm.MethodName) ∈ p_G := inG_s 86 rfl rfl
theorem ws_87 : Cond.selects "DriverHostModel" ({ cls := "DriverHostModel", name := "records", desc := "()V" } : Jvm.MethodName) ({ cls := "DriverHostModel", name := "records", desc := "()V" } : Jvm.MethodName) ∈ p_G := inG_s 87 rfl rfl
theorem ws_88 : Cond.selects "DriverHostModel" ({ cls := "DriverHostModel", name := "notes", desc := "([IIII)V" } : Jvm.MethodName) ({ cls := "DriverHostModel", name := "notes", desc := "([IIII)V" } : Jvm.MethodName) ∈ p_G := inG_s 88 rfl rfl
theorem ws_89 : Cond.selects "DriverHostModel" ({ cls := "DriverHostModel", name := "endsBadly", desc := "([III)V" } : Jvm.MethodName) ({ cls := "DriverHostModel", name := "endsBadly", desc := "([III)V" } : Jvm.MethodName) ∈ p_G := inG_s 89 rfl rfl
theorem ws_90 : Cond.selects "DriverHostModel" ({ cls := "DriverHostModel", name := "crashes", desc := "([II)V" } : Jvm.MethodName) ({ cls := "DriverHostModel", name := "crashes", desc := "([II)V" } : Jvm.MethodName) ∈ p_G := inG_s 90 rfl rfl
theorem ws_91 : Cond.selects "DriverHostModel" ({ cls := "DriverHostModel", name := "delayOf", desc := "(I)I" } : Jvm.MethodName) ({ cls := "DriverHostModel", name := "delayOf", desc := "(I)I" } : Jvm.MethodName) ∈ p_G := inG_s 91 rfl rfl
theorem ws_92 : Cond.selects "DriverHostModel" ({ cls := "DriverHostModel", name := "snaps", desc := "([II)V" } : Jvm.MethodName) ({ cls := "DriverHostModel", name := "snaps", desc := "([II)V" } : Jvm.MethodName) ∈ p_G := inG_s 92 rfl rfl
theorem ws_93 : Cond.selects "DriverHostModel" ({ cls := "DriverHostModel", name := "tick", desc := "([I)V" } : Jvm.MethodName) ({ cls := "DriverHostModel", name := "tick", desc := "([I)V" } : Jvm.MethodName) ∈ p_G := inG_s 93 rfl rfl
theorem ws_94 : Cond.selects "DriverHostModel" ({ cls := "DriverHostModel", name := "ticksOf", desc := "([II)V" } : Jvm.MethodName) ({ cls := "DriverHostModel", name := "ticksOf", desc := "([II)V" } : Jvm.MethodName) ∈ p_G := inG_s 94 rfl rfl
theorem ws_95 : Cond.selects "DriverHostModel" ({ cls := "DriverHostModel", name := "restarts", desc := "([II)V" } : Jvm.MethodName) ({ cls := "DriverHostModel", name := "restarts", desc := "([II)V" } : Jvm.MethodName) ∈ p_G := inG_s 95 rfl rfl
theorem ws_96 : Cond.selects "DriverHostModel" ({ cls := "DriverHostModel", name := "keepsIn", desc := "([II)V" } : Jvm.MethodName) ({ cls := "DriverHostModel", name := "keepsIn", desc := "([II)V" } : Jvm.MethodName) ∈ p_G := inG_s 96 rfl rfl
theorem ws_97 : Cond.selects "DriverHostModel" ({ cls := "DriverHostModel", name := "goesThrough", desc := "([IIIIII)I" } : Jvm.MethodName) ({ cls := "DriverHostModel", name := "goesThrough", desc := "([IIIIII)I" } : Jvm.MethodName) ∈ p_G := inG_s 97 rfl rfl
theorem ws_98 : Cond.selects "DriverHostModel" ({ cls := "DriverHostModel", name := "reckons", desc := "(I)Z" } : Jvm.MethodName) ({ cls := "DriverHostModel", name := "reckons", desc := "(I)Z" } : Jvm.MethodName) ∈ p_G := inG_s 98 rfl rfl
theorem ws_99 : Cond.selects "DriverHostModel" ({ cls := "DriverHostModel", name := "decides", desc := "([III)V" } : Jvm.MethodName) ({ cls := "DriverHostModel", name := "decides", desc := "([III)V" } : Jvm.MethodName) ∈ p_G := inG_s 99 rfl rfl
theorem ws_100 : Cond.selects "DriverHostModel" ({ cls := "DriverHostModel", name := "isTrue", desc := "([II)Z" } : Jvm.MethodName) ({ cls := "DriverHostModel", name := "isTrue", desc := "([II)Z" } : Jvm.MethodName) ∈ p_G := inG_s 100 rfl rfl
theorem ws_101 : Cond.selects "DriverHostModel" ({ cls := "DriverHostModel", name := "resultOf", desc := "([II)I" } : Jvm.MethodName) ({ cls := "DriverHostModel", name := "resultOf", desc := "([II)I" } : Jvm.MethodName) ∈ p_G := inG_s 101 rfl rfl
theorem ws_102 : Cond.selects "DriverHostModel" ({ cls := "DriverHostModel", name := "endsWell", desc := "([III)V" } : Jvm.MethodName) ({ cls := "DriverHostModel", name := "endsWell", desc := "([III)V" } : Jvm.MethodName) ∈ p_G := inG_s 102 rfl rfl
theorem ws_103 : Cond.selects "DriverHostModel" ({ cls := "DriverHostModel", name := "dropsLate", desc := "([II)V" } : Jvm.MethodName) ({ cls := "DriverHostModel", name := "dropsLate", desc := "([II)V" } : Jvm.MethodName) ∈ p_G := inG_s 103 rfl rfl
theorem ws_104 : Cond.selects "DriverHostModel" ({ cls := "DriverHostModel", name := "begins", desc := "([II)V" } : Jvm.MethodName) ({ cls := "DriverHostModel", name := "begins", desc := "([II)V" } : Jvm.MethodName) ∈ p_G := inG_s 104 rfl rfl
theorem ws_105 : Cond.selects "DriverHostModel" ({ cls := "DriverHostModel", name := "goesOn", desc := "([II)V" } : Jvm.MethodName) ({ cls := "DriverHostModel", name := "goesOn", desc := "([II)V" } : Jvm.MethodName) ∈ p_G := inG_s 105 rfl rfl
theorem ws_106 : Cond.selects "DriverHostModel" ({ cls := "DriverHostModel", name := "holds", desc := "(I)Z" } : Jvm.MethodName) ({ cls := "DriverHostModel", name := "holds", desc := "(I)Z" } : Jvm.MethodName) ∈ p_G := inG_s 106 rfl rfl
theorem ws_107 : Cond.selects "DriverHostModel" ({ cls := "DriverHostModel", name := "propertyOf", desc := "(II)I" } : Jvm.MethodName) ({ cls := "DriverHostModel", name := "propertyOf", desc := "(II)I" } : Jvm.MethodName) ∈ p_G := inG_s 107 rfl rfl
def p_AOL : List String × List (Nat × String) := (["DriverHost$Command", "DriverHost$Driver", "DriverHost$Request", "DriverHost$Word", "DriverHost$World"], [(1000000001, "DRIVERS"), (1000000002, "COMMAND"), (1000000003, "TIME"), (1000000004, "SET"), (1000000005, "KEEP"), (1000000006, "OR"), (1000000007, "AND"), (1000000008, "NOT"), (1000000009, "REG"), (1000000010, "VAR"), (1000000011, "ARG"), (1000000012, "RES"), (1000000013, "MANY"), (1000000014, "FIRST"), (1000000015, "DELAY"), (1000000016, "CALM"), (1000000017, "STREAK"), (1000000018, "POISON"), (1000000019, "EVERY"), (1000000020, "HANDOVER"), (1000000021, "PURE"), (1000000022, "AGAIN"), (1000000023, "ONCE"), (1000000024, "CHECK"), (1000000025, "NUMBER"), (1000000026, "DRIVER"), (1000000027, "KIND"), (1000000028, "CLASS"), (1000000029, "ARGUMENT"), (1000000030, "PRIORITY"), (1000000031, "STATE"), (1000000032, "FAILURE"), (1000000033, "RESULT"), (1000000034, "EXECUTIONS"), (1000000035, "CRASHES")])
def p_TL : List (String × Nat × Nat × Nat × String) := [("DriverHost", 56, 0, 0, "length out of range"), ("DriverHost", 120, 0, 0, "priority or limit out of range"), ("DriverHost", 162, 0, 0, "point or times out of range"), ("DriverHost", 201, 0, 0, "value out of range"), ("DriverHost", 207, 0, 0, "ticks out of range"), ("DriverHost", 228, 0, 0, "negative index"), ("DriverHost$Driver", 70, 0, 0, "no such register"), ("DriverHost$Driver", 75, 0, 0, "no such variable"), ("DriverHost$Journal", 42, 0, 0, "no such record"), ("DriverHost$Journal", 47, 0, 0, "no such property"), ("DriverHost$Program", 56, 0, 0, "no such command"), ("DriverHost$Request", 63, 0, 0, "no such property"), ("DriverHost$World", 66, 0, 0, "no such driver"), ("DriverHost$World", 71, 0, 0, "no such request")]
def p_NL : List (String × Nat × MethodName × String) := [("DriverHost$Reader", 163, ({ cls := "DriverHost$Command", name := "<init>", desc := "()V" } : MethodName), "DriverHost"), ("DriverHost$World", 32, ({ cls := "DriverHost$Journal", name := "<init>", desc := "()V" } : MethodName), "DriverHost"), ("DriverHost", 36, ({ cls := "DriverHost$History", name := "<init>", desc := "()V" } : MethodName), "DriverHost")]
def p_ra : List (Nat × String) := [(1, "DriverHost$Command"), (2, "DriverHost$Driver"), (7, "DriverHost$Request"), (9, "DriverHost$Word"), (10, "DriverHost$World")]
def p_rab (ci : Nat) : Bool := p_ra.any (fun q => q.1 == ci)
theorem uw_0 : ∀ w ∈ u_ws RX0 TX0 4, w ∈ lw_tbl := by decide +kernel
theorem ug_0 : ∀ w ∈ u_ws RX0 TX0 4, goodWord w = true := by decide +kernel
theorem cok_0 {L : Nat} {xs : Nat → Int32} : m_cok (p_P L xs) vwCl p_G 0 RX0 TX0 :=
  ⟨by decide, rfl, fun w h => List.mem_filter.mpr ⟨List.mem_cons_of_mem _ (uw_0 w h), ug_0 w h⟩, nmX0, tyX0, tyX0_ok, fun k hk => by
    match k, hk with
    | 0, _ => exact Or.inr (Or.inl ⟨rfl, Or.inr ⟨_, rfl⟩⟩)
    | 1, _ => exact Or.inr (Or.inl ⟨rfl, Or.inr ⟨_, rfl⟩⟩)
    | 2, _ => exact Or.inl ⟨rfl, rfl⟩
    | 3, _ => exact Or.inr (Or.inl ⟨rfl, Or.inr ⟨_, rfl⟩⟩)
    | k + 4, h => exact absurd h (Nat.not_lt.mpr (Nat.le_add_left 4 k))⟩
theorem uw_1 : ∀ w ∈ u_ws RX1 TX1 8, w ∈ lw_tbl := by decide +kernel
theorem ug_1 : ∀ w ∈ u_ws RX1 TX1 8, goodWord w = true := by decide +kernel
theorem cok_1 {L : Nat} {xs : Nat → Int32} : m_cok (p_P L xs) vwCl p_G 1 RX1 TX1 :=
  ⟨by decide, rfl, fun w h => List.mem_filter.mpr ⟨List.mem_cons_of_mem _ (uw_1 w h), ug_1 w h⟩, nmX1, tyX1, tyX1_ok, fun k hk => by
    match k, hk with
    | 0, _ => exact Or.inl ⟨rfl, rfl⟩
    | 1, _ => exact Or.inl ⟨rfl, rfl⟩
    | 2, _ => exact Or.inl ⟨rfl, rfl⟩
    | 3, _ => exact Or.inl ⟨rfl, rfl⟩
    | 4, _ => exact Or.inl ⟨rfl, rfl⟩
    | 5, _ => exact Or.inl ⟨rfl, rfl⟩
    | 6, _ => exact Or.inl ⟨rfl, rfl⟩
    | 7, _ => exact Or.inl ⟨rfl, rfl⟩
    | k + 8, h => exact absurd h (Nat.not_lt.mpr (Nat.le_add_left 8 k))⟩
theorem uw_2 : ∀ w ∈ u_ws RX2 TX2 16, w ∈ lw_tbl := by decide +kernel
theorem ug_2 : ∀ w ∈ u_ws RX2 TX2 16, goodWord w = true := by decide +kernel
theorem cok_2 {L : Nat} {xs : Nat → Int32} : m_cok (p_P L xs) vwCl p_G 2 RX2 TX2 :=
  ⟨by decide, rfl, fun w h => List.mem_filter.mpr ⟨List.mem_cons_of_mem _ (uw_2 w h), ug_2 w h⟩, nmX2, tyX2, tyX2_ok, fun k hk => by
    match k, hk with
    | 0, _ => exact Or.inl ⟨rfl, rfl⟩
    | 1, _ => exact Or.inl ⟨rfl, rfl⟩
    | 2, _ => exact Or.inl ⟨rfl, rfl⟩
    | 3, _ => exact Or.inl ⟨rfl, rfl⟩
    | 4, _ => exact Or.inl ⟨rfl, rfl⟩
    | 5, _ => exact Or.inr (Or.inl ⟨rfl, Or.inr ⟨_, rfl⟩⟩)
    | 6, _ => exact Or.inr (Or.inl ⟨rfl, Or.inr ⟨_, rfl⟩⟩)
    | 7, _ => exact Or.inr (Or.inl ⟨rfl, Or.inr ⟨_, rfl⟩⟩)
    | 8, _ => exact Or.inl ⟨rfl, rfl⟩
    | 9, _ => exact Or.inl ⟨rfl, rfl⟩
    | 10, _ => exact Or.inl ⟨rfl, rfl⟩
    | 11, _ => exact Or.inl ⟨rfl, rfl⟩
    | 12, _ => exact Or.inl ⟨rfl, rfl⟩
    | 13, _ => exact Or.inl ⟨rfl, rfl⟩
    | 14, _ => exact Or.inl ⟨rfl, rfl⟩
    | 15, _ => exact Or.inl ⟨rfl, rfl⟩
    | k + 16, h => exact absurd h (Nat.not_lt.mpr (Nat.le_add_left 16 k))⟩
theorem uw_3 : ∀ w ∈ u_ws RX3 TX3 3, w ∈ lw_tbl := by decide +kernel
theorem ug_3 : ∀ w ∈ u_ws RX3 TX3 3, goodWord w = true := by decide +kernel
theorem cok_3 {L : Nat} {xs : Nat → Int32} : m_cok (p_P L xs) vwCl p_G 3 RX3 TX3 :=
  ⟨by decide, rfl, fun w h => List.mem_filter.mpr ⟨List.mem_cons_of_mem _ (uw_3 w h), ug_3 w h⟩, nmX3, tyX3, tyX3_ok, fun k hk => by
    match k, hk with
    | 0, _ => exact Or.inr (Or.inl ⟨rfl, Or.inr ⟨_, rfl⟩⟩)
    | 1, _ => exact Or.inl ⟨rfl, rfl⟩
    | 2, _ => exact Or.inl ⟨rfl, rfl⟩
    | k + 3, h => exact absurd h (Nat.not_lt.mpr (Nat.le_add_left 3 k))⟩
theorem uw_4 : ∀ w ∈ u_ws RX4 TX4 7, w ∈ lw_tbl := by decide +kernel
theorem ug_4 : ∀ w ∈ u_ws RX4 TX4 7, goodWord w = true := by decide +kernel
theorem cok_4 {L : Nat} {xs : Nat → Int32} : m_cok (p_P L xs) vwCl p_G 4 RX4 TX4 :=
  ⟨by decide, rfl, fun w h => List.mem_filter.mpr ⟨List.mem_cons_of_mem _ (uw_4 w h), ug_4 w h⟩, nmX4, tyX4, tyX4_ok, fun k hk => by
    match k, hk with
    | 0, _ => exact Or.inr (Or.inl ⟨rfl, Or.inr ⟨_, rfl⟩⟩)
    | 1, _ => exact Or.inr (Or.inl ⟨rfl, Or.inr ⟨_, rfl⟩⟩)
    | 2, _ => exact Or.inr (Or.inl ⟨rfl, Or.inr ⟨_, rfl⟩⟩)
    | 3, _ => exact Or.inr (Or.inl ⟨rfl, Or.inr ⟨_, rfl⟩⟩)
    | 4, _ => exact Or.inr (Or.inl ⟨rfl, Or.inr ⟨_, rfl⟩⟩)
    | 5, _ => exact Or.inl ⟨rfl, rfl⟩
    | 6, _ => exact Or.inl ⟨rfl, rfl⟩
    | k + 7, h => exact absurd h (Nat.not_lt.mpr (Nat.le_add_left 7 k))⟩
theorem uw_5 : ∀ w ∈ u_ws RX5 TX5 11, w ∈ lw_tbl := by decide +kernel
theorem ug_5 : ∀ w ∈ u_ws RX5 TX5 11, goodWord w = true := by decide +kernel
theorem cok_5 {L : Nat} {xs : Nat → Int32} : m_cok (p_P L xs) vwCl p_G 5 RX5 TX5 :=
  ⟨by decide, rfl, fun w h => List.mem_filter.mpr ⟨List.mem_cons_of_mem _ (uw_5 w h), ug_5 w h⟩, nmX5, tyX5, tyX5_ok, fun k hk => by
    match k, hk with
    | 0, _ => exact Or.inl ⟨rfl, rfl⟩
    | 1, _ => exact Or.inl ⟨rfl, rfl⟩
    | 2, _ => exact Or.inr (Or.inl ⟨rfl, Or.inr ⟨_, rfl⟩⟩)
    | 3, _ => exact Or.inl ⟨rfl, rfl⟩
    | 4, _ => exact Or.inl ⟨rfl, rfl⟩
    | 5, _ => exact Or.inl ⟨rfl, rfl⟩
    | 6, _ => exact Or.inl ⟨rfl, rfl⟩
    | 7, _ => exact Or.inl ⟨rfl, rfl⟩
    | 8, _ => exact Or.inl ⟨rfl, rfl⟩
    | 9, _ => exact Or.inl ⟨rfl, rfl⟩
    | 10, _ => exact Or.inr (Or.inl ⟨rfl, Or.inl ⟨_, rfl⟩⟩)
    | k + 11, h => exact absurd h (Nat.not_lt.mpr (Nat.le_add_left 11 k))⟩
theorem uw_6 : ∀ w ∈ u_ws RX6 TX6 7, w ∈ lw_tbl := by decide +kernel
theorem ug_6 : ∀ w ∈ u_ws RX6 TX6 7, goodWord w = true := by decide +kernel
theorem cok_6 {L : Nat} {xs : Nat → Int32} : m_cok (p_P L xs) vwCl p_G 6 RX6 TX6 :=
  ⟨by decide, rfl, fun w h => List.mem_filter.mpr ⟨List.mem_cons_of_mem _ (uw_6 w h), ug_6 w h⟩, nmX6, tyX6, tyX6_ok, fun k hk => by
    match k, hk with
    | 0, _ => exact Or.inr (Or.inl ⟨rfl, Or.inl ⟨_, rfl⟩⟩)
    | 1, _ => exact Or.inr (Or.inr (Or.inr ⟨rfl, rfl⟩))
    | 2, _ => exact Or.inr (Or.inl ⟨rfl, Or.inl ⟨_, rfl⟩⟩)
    | 3, _ => exact Or.inr (Or.inl ⟨rfl, Or.inl ⟨_, rfl⟩⟩)
    | 4, _ => exact Or.inr (Or.inr (Or.inr ⟨rfl, rfl⟩))
    | 5, _ => exact Or.inl ⟨rfl, rfl⟩
    | 6, _ => exact Or.inl ⟨rfl, rfl⟩
    | k + 7, h => exact absurd h (Nat.not_lt.mpr (Nat.le_add_left 7 k))⟩
theorem uw_7 : ∀ w ∈ u_ws RX7 TX7 16, w ∈ lw_tbl := by decide +kernel
theorem ug_7 : ∀ w ∈ u_ws RX7 TX7 16, goodWord w = true := by decide +kernel
theorem cok_7 {L : Nat} {xs : Nat → Int32} : m_cok (p_P L xs) vwCl p_G 7 RX7 TX7 :=
  ⟨by decide, rfl, fun w h => List.mem_filter.mpr ⟨List.mem_cons_of_mem _ (uw_7 w h), ug_7 w h⟩, nmX7, tyX7, tyX7_ok, fun k hk => by
    match k, hk with
    | 0, _ => exact Or.inl ⟨rfl, rfl⟩
    | 1, _ => exact Or.inl ⟨rfl, rfl⟩
    | 2, _ => exact Or.inl ⟨rfl, rfl⟩
    | 3, _ => exact Or.inl ⟨rfl, rfl⟩
    | 4, _ => exact Or.inl ⟨rfl, rfl⟩
    | 5, _ => exact Or.inl ⟨rfl, rfl⟩
    | 6, _ => exact Or.inl ⟨rfl, rfl⟩
    | 7, _ => exact Or.inl ⟨rfl, rfl⟩
    | 8, _ => exact Or.inl ⟨rfl, rfl⟩
    | 9, _ => exact Or.inl ⟨rfl, rfl⟩
    | 10, _ => exact Or.inl ⟨rfl, rfl⟩
    | 11, _ => exact Or.inl ⟨rfl, rfl⟩
    | 12, _ => exact Or.inl ⟨rfl, rfl⟩
    | 13, _ => exact Or.inl ⟨rfl, rfl⟩
    | 14, _ => exact Or.inl ⟨rfl, rfl⟩
    | 15, _ => exact Or.inl ⟨rfl, rfl⟩
    | k + 16, h => exact absurd h (Nat.not_lt.mpr (Nat.le_add_left 16 k))⟩
theorem uw_8 : ∀ w ∈ u_ws RX8 TX8 11, w ∈ lw_tbl := by decide +kernel
theorem ug_8 : ∀ w ∈ u_ws RX8 TX8 11, goodWord w = true := by decide +kernel
theorem cok_8 {L : Nat} {xs : Nat → Int32} : m_cok (p_P L xs) vwCl p_G 8 RX8 TX8 :=
  ⟨by decide, rfl, fun w h => List.mem_filter.mpr ⟨List.mem_cons_of_mem _ (uw_8 w h), ug_8 w h⟩, nmX8, tyX8, tyX8_ok, fun k hk => by
    match k, hk with
    | 0, _ => exact Or.inr (Or.inl ⟨rfl, Or.inr ⟨_, rfl⟩⟩)
    | 1, _ => exact Or.inl ⟨rfl, rfl⟩
    | 2, _ => exact Or.inr (Or.inl ⟨rfl, Or.inr ⟨_, rfl⟩⟩)
    | 3, _ => exact Or.inr (Or.inl ⟨rfl, Or.inr ⟨_, rfl⟩⟩)
    | 4, _ => exact Or.inr (Or.inl ⟨rfl, Or.inr ⟨_, rfl⟩⟩)
    | 5, _ => exact Or.inr (Or.inl ⟨rfl, Or.inr ⟨_, rfl⟩⟩)
    | 6, _ => exact Or.inr (Or.inl ⟨rfl, Or.inr ⟨_, rfl⟩⟩)
    | 7, _ => exact Or.inl ⟨rfl, rfl⟩
    | 8, _ => exact Or.inl ⟨rfl, rfl⟩
    | 9, _ => exact Or.inl ⟨rfl, rfl⟩
    | 10, _ => exact Or.inl ⟨rfl, rfl⟩
    | k + 11, h => exact absurd h (Nat.not_lt.mpr (Nat.le_add_left 11 k))⟩
theorem uw_10 : ∀ w ∈ u_ws RX10 TX10 7, w ∈ lw_tbl := by decide +kernel
theorem ug_10 : ∀ w ∈ u_ws RX10 TX10 7, goodWord w = true := by decide +kernel
theorem cok_10 {L : Nat} {xs : Nat → Int32} : m_cok (p_P L xs) vwCl p_G 10 RX10 TX10 :=
  ⟨by decide, rfl, fun w h => List.mem_filter.mpr ⟨List.mem_cons_of_mem _ (uw_10 w h), ug_10 w h⟩, nmX10, tyX10, tyX10_ok, fun k hk => by
    match k, hk with
    | 0, _ => exact Or.inr (Or.inl ⟨rfl, Or.inl ⟨_, rfl⟩⟩)
    | 1, _ => exact Or.inl ⟨rfl, rfl⟩
    | 2, _ => exact Or.inl ⟨rfl, rfl⟩
    | 3, _ => exact Or.inl ⟨rfl, rfl⟩
    | 4, _ => exact Or.inr (Or.inl ⟨rfl, Or.inr ⟨_, rfl⟩⟩)
    | 5, _ => exact Or.inr (Or.inl ⟨rfl, Or.inr ⟨_, rfl⟩⟩)
    | 6, _ => exact Or.inr (Or.inl ⟨rfl, Or.inl ⟨_, rfl⟩⟩)
    | k + 7, h => exact absurd h (Nat.not_lt.mpr (Nat.le_add_left 7 k))⟩
theorem uw_11 : ∀ w ∈ u_ws RX11 TX11 8, w ∈ lw_tbl := by decide +kernel
theorem ug_11 : ∀ w ∈ u_ws RX11 TX11 8, goodWord w = true := by decide +kernel
theorem cok_11 {L : Nat} {xs : Nat → Int32} : m_cok (p_P L xs) vwCl p_G 11 RX11 TX11 :=
  ⟨by decide, rfl, fun w h => List.mem_filter.mpr ⟨List.mem_cons_of_mem _ (uw_11 w h), ug_11 w h⟩, nmX11, tyX11, tyX11_ok, fun k hk => by
    match k, hk with
    | 0, _ => exact Or.inr (Or.inl ⟨rfl, Or.inr ⟨_, rfl⟩⟩)
    | 1, _ => exact Or.inl ⟨rfl, rfl⟩
    | 2, _ => exact Or.inl ⟨rfl, rfl⟩
    | 3, _ => exact Or.inr (Or.inl ⟨rfl, Or.inl ⟨_, rfl⟩⟩)
    | 4, _ => exact Or.inr (Or.inl ⟨rfl, Or.inl ⟨_, rfl⟩⟩)
    | 5, _ => exact Or.inr (Or.inl ⟨rfl, Or.inl ⟨_, rfl⟩⟩)
    | 6, _ => exact Or.inr (Or.inr (Or.inr ⟨rfl, rfl⟩))
    | 7, _ => exact Or.inr (Or.inl ⟨rfl, Or.inl ⟨_, rfl⟩⟩)
    | k + 8, h => exact absurd h (Nat.not_lt.mpr (Nat.le_add_left 8 k))⟩
theorem uw_12 : ∀ w ∈ u_ws RX12 TX12 37, w ∈ lw_tbl := by decide +kernel
theorem ug_12 : ∀ w ∈ u_ws RX12 TX12 37, goodWord w = true := by decide +kernel
theorem cok_12 {L : Nat} {xs : Nat → Int32} : m_cok (p_P L xs) vwCl p_G 12 RX12 TX12 :=
  ⟨by decide, rfl, fun w h => List.mem_filter.mpr ⟨List.mem_cons_of_mem _ (uw_12 w h), ug_12 w h⟩, nmX12, tyX12, tyX12_ok, fun k hk => by
    match k, hk with
    | 0, _ => exact Or.inl ⟨rfl, rfl⟩
    | 1, _ => exact Or.inr (Or.inl ⟨rfl, Or.inr ⟨_, rfl⟩⟩)
    | 2, _ => exact Or.inr (Or.inl ⟨rfl, Or.inr ⟨_, rfl⟩⟩)
    | 3, _ => exact Or.inr (Or.inl ⟨rfl, Or.inr ⟨_, rfl⟩⟩)
    | 4, _ => exact Or.inr (Or.inl ⟨rfl, Or.inr ⟨_, rfl⟩⟩)
    | 5, _ => exact Or.inr (Or.inl ⟨rfl, Or.inr ⟨_, rfl⟩⟩)
    | 6, _ => exact Or.inr (Or.inl ⟨rfl, Or.inr ⟨_, rfl⟩⟩)
    | 7, _ => exact Or.inr (Or.inl ⟨rfl, Or.inr ⟨_, rfl⟩⟩)
    | 8, _ => exact Or.inr (Or.inl ⟨rfl, Or.inr ⟨_, rfl⟩⟩)
    | 9, _ => exact Or.inr (Or.inl ⟨rfl, Or.inr ⟨_, rfl⟩⟩)
    | 10, _ => exact Or.inr (Or.inl ⟨rfl, Or.inr ⟨_, rfl⟩⟩)
    | 11, _ => exact Or.inr (Or.inl ⟨rfl, Or.inr ⟨_, rfl⟩⟩)
    | 12, _ => exact Or.inr (Or.inl ⟨rfl, Or.inr ⟨_, rfl⟩⟩)
    | 13, _ => exact Or.inr (Or.inl ⟨rfl, Or.inr ⟨_, rfl⟩⟩)
    | 14, _ => exact Or.inr (Or.inl ⟨rfl, Or.inr ⟨_, rfl⟩⟩)
    | 15, _ => exact Or.inr (Or.inl ⟨rfl, Or.inr ⟨_, rfl⟩⟩)
    | 16, _ => exact Or.inr (Or.inr (Or.inr ⟨rfl, rfl⟩))
    | 17, _ => exact Or.inl ⟨rfl, rfl⟩
    | 18, _ => exact Or.inr (Or.inl ⟨rfl, Or.inr ⟨_, rfl⟩⟩)
    | 19, _ => exact Or.inl ⟨rfl, rfl⟩
    | 20, _ => exact Or.inl ⟨rfl, rfl⟩
    | 21, _ => exact Or.inl ⟨rfl, rfl⟩
    | 22, _ => exact Or.inl ⟨rfl, rfl⟩
    | 23, _ => exact Or.inl ⟨rfl, rfl⟩
    | 24, _ => exact Or.inl ⟨rfl, rfl⟩
    | 25, _ => exact Or.inr (Or.inr (Or.inl ⟨rfl, rfl⟩))
    | 26, _ => exact Or.inl ⟨rfl, rfl⟩
    | 27, _ => exact Or.inl ⟨rfl, rfl⟩
    | 28, _ => exact Or.inr (Or.inl ⟨rfl, Or.inr ⟨_, rfl⟩⟩)
    | 29, _ => exact Or.inr (Or.inl ⟨rfl, Or.inr ⟨_, rfl⟩⟩)
    | 30, _ => exact Or.inr (Or.inl ⟨rfl, Or.inr ⟨_, rfl⟩⟩)
    | 31, _ => exact Or.inl ⟨rfl, rfl⟩
    | 32, _ => exact Or.inl ⟨rfl, rfl⟩
    | 33, _ => exact Or.inl ⟨rfl, rfl⟩
    | 34, _ => exact Or.inl ⟨rfl, rfl⟩
    | 35, _ => exact Or.inr (Or.inr (Or.inr ⟨rfl, rfl⟩))
    | 36, _ => exact Or.inl ⟨rfl, rfl⟩
    | k + 37, h => exact absurd h (Nat.not_lt.mpr (Nat.le_add_left 37 k))⟩
