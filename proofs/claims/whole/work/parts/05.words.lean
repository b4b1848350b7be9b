def BW : List Cond := lw_tbl.filter goodWord
def nwk : Cond → Bool
  | .castable _ _ => true
  | .declares _ => true
  | .methodLinkNest _ _ _ _ => true
  | .arrayOver (.object _) => true
  | _ => false
def NW : List Cond := lw_tbl.filter nwk
theorem bw_of {w : Cond} (i : Nat) (h : lw_tbl[i]? = some w) (g : goodWord w = true) : w ∈ BW := List.mem_filter.mpr ⟨List.mem_of_getElem? h, g⟩
theorem nw_of {w : Cond} (i : Nat) (h : lw_tbl[i]? = some w) (g : nwk w = true) : w ∈ NW := List.mem_filter.mpr ⟨List.mem_of_getElem? h, g⟩
theorem bw_all {ws : List Cond} (ps : List Nat) (hp : ws = ps.filterMap (fun i => lw_tbl[i]?)) (h : ws.all goodWord = true) : ∀ w ∈ ws, w ∈ BW := by
  intro w hw
  have h1 := List.all_eq_true.mp h w hw
  rw [hp] at hw
  obtain ⟨i, -, hi⟩ := List.mem_filterMap.mp hw
  exact bw_of i hi h1
theorem bw_0 : (Jvm.Cond.initialized "BadgewoodLaw") ∈ BW := bw_of 53 (by decide +kernel) rfl
theorem bw_1 : (Jvm.Cond.initialized "Badgewood") ∈ BW := bw_of 54 (by decide +kernel) rfl
theorem bw_2 : (Jvm.Cond.initialized "java/util/AbstractCollection") ∈ BW := bw_of 55 (by decide +kernel) rfl
theorem bw_3 : (Jvm.Cond.initialized "java/util/AbstractList") ∈ BW := bw_of 56 (by decide +kernel) rfl
theorem bw_4 : (Jvm.Cond.initialized "java/util/ArrayList") ∈ BW := bw_of 57 (by decide +kernel) rfl
theorem bw_5 : (Jvm.Cond.initialized "Badgewood$Badge") ∈ BW := bw_of 58 (by decide +kernel) rfl
theorem bw_6 : (Jvm.Cond.initialized "BadgewoodModel") ∈ BW := bw_of 59 (by decide +kernel) rfl
theorem bw_7 : (Jvm.Cond.initialized "java/lang/Throwable") ∈ BW := bw_of 60 (by decide +kernel) rfl
theorem bw_8 : (Jvm.Cond.initialized "java/lang/Exception") ∈ BW := bw_of 61 (by decide +kernel) rfl
theorem bw_9 : (Jvm.Cond.initialized "java/lang/RuntimeException") ∈ BW := bw_of 62 (by decide +kernel) rfl
theorem bw_10 : (Jvm.Cond.initialized "java/lang/IllegalArgumentException") ∈ BW := bw_of 63 (by decide +kernel) rfl
theorem bw_11 : (Jvm.Cond.initialized "java/lang/IllegalStateException") ∈ BW := bw_of 64 (by decide +kernel) rfl
theorem bw_12 : (Jvm.Cond.initialized "Badgewood$Troop") ∈ BW := bw_of 65 (by decide +kernel) rfl
theorem bw_13 : (Jvm.Cond.initialized "jdk/internal/util/ArraysSupport") ∈ BW := bw_of 66 (by decide +kernel) rfl
theorem bw_14 : (Jvm.Cond.initialized "java/lang/Math") ∈ BW := bw_of 67 (by decide +kernel) rfl
theorem bw_15 : (Jvm.Cond.initialized "java/util/Arrays") ∈ BW := bw_of 68 (by decide +kernel) rfl
theorem bw_16 : (Jvm.Cond.initialized "java/lang/System") ∈ BW := bw_of 69 (by decide +kernel) rfl
theorem bw_17 : (Jvm.Cond.initialized "Badgewood$Child") ∈ BW := bw_of 70 (by decide +kernel) rfl
theorem bw_18 : (Jvm.Cond.initialized "java/lang/IndexOutOfBoundsException") ∈ BW := bw_of 71 (by decide +kernel) rfl
theorem bw_19 : (Jvm.Cond.initialized "java/util/Objects") ∈ BW := bw_of 72 (by decide +kernel) rfl
theorem bw_20 : (Jvm.Cond.initialized "jdk/internal/util/Preconditions") ∈ BW := bw_of 73 (by decide +kernel) rfl
theorem bw_21 : (Jvm.Cond.initialized "java/lang/Integer") ∈ BW := bw_of 74 (by decide +kernel) rfl
theorem bw_22 : (Jvm.Cond.initialized "Badgewood$Leader") ∈ BW := bw_of 75 (by decide +kernel) rfl
theorem bw_23 : (Jvm.Cond.initialized "Badgewood$Edition") ∈ BW := bw_of 76 (by decide +kernel) rfl
theorem bw_24 : (Jvm.Cond.initialized "Badgewood$Course") ∈ BW := bw_of 77 (by decide +kernel) rfl
theorem bw_25 : (Jvm.Cond.initialized "Badgewood$Event") ∈ BW := bw_of 78 (by decide +kernel) rfl
theorem bw_26 : (Jvm.Cond.initialized "Badgewood$Need") ∈ BW := bw_of 79 (by decide +kernel) rfl
theorem bw_27 : (Jvm.Cond.classLink "BadgewoodLaw" (8 : Nat) "Badgewood") ∈ BW := bw_of 80 (by decide +kernel) rfl
theorem bw_28 : (Jvm.Cond.instantiable "Badgewood" (7 : Nat)) ∈ BW := bw_of 81 (by decide +kernel) rfl
theorem bw_29 : (Jvm.Cond.methodLink "BadgewoodLaw" (104 : Nat) ({ cls := "Badgewood", name := "<init>", desc := "()V" } : Jvm.MethodName)) ∈ BW := bw_of 82 (by decide +kernel) rfl
theorem bw_30 : (Jvm.Cond.instanceMethod ({ cls := "Badgewood", name := "<init>", desc := "()V" } : Jvm.MethodName)) ∈ BW := bw_of 83 (by decide +kernel) rfl
theorem bw_31 : (Jvm.Cond.code ({ cls := "Badgewood", name := "<init>", desc := "()V" } : Jvm.MethodName) prog_1_method_1_code (2 : Nat) (Option.none : Option Jvm.ClassFile.FieldType)) ∈ BW := bw_of 84 (by decide +kernel) rfl
theorem bw_32 : (Jvm.Cond.methodLink "Badgewood" (1 : Nat) ({ cls := "java/lang/Object", name := "<init>", desc := "()V" } : Jvm.MethodName)) ∈ BW := bw_of 85 (by decide +kernel) rfl
theorem bw_33 : (Jvm.Cond.instanceMethod ({ cls := "java/lang/Object", name := "<init>", desc := "()V" } : Jvm.MethodName)) ∈ BW := bw_of 86 (by decide +kernel) rfl
theorem bw_34 : (Jvm.Cond.code ({ cls := "java/lang/Object", name := "<init>", desc := "()V" } : Jvm.MethodName) object_method_1_code (1 : Nat) (Option.none : Option Jvm.ClassFile.FieldType)) ∈ BW := bw_of 87 (by decide +kernel) rfl
theorem bw_35 : (Jvm.Cond.classLink "Badgewood" (7 : Nat) "java/util/ArrayList") ∈ BW := bw_of 88 (by decide +kernel) rfl
theorem bw_36 : (Jvm.Cond.instantiable "java/util/ArrayList" (3 : Nat)) ∈ BW := bw_of 89 (by decide +kernel) rfl
theorem bw_37 : (Jvm.Cond.methodLink "Badgewood" (9 : Nat) ({ cls := "java/util/ArrayList", name := "<init>", desc := "()V" } : Jvm.MethodName)) ∈ BW := bw_of 90 (by decide +kernel) rfl
theorem bw_38 : (Jvm.Cond.instanceMethod ({ cls := "java/util/ArrayList", name := "<init>", desc := "()V" } : Jvm.MethodName)) ∈ BW := bw_of 91 (by decide +kernel) rfl
theorem bw_39 : (Jvm.Cond.code ({ cls := "java/util/ArrayList", name := "<init>", desc := "()V" } : Jvm.MethodName) prog_27_method_2_code (1 : Nat) (Option.none : Option Jvm.ClassFile.FieldType)) ∈ BW := bw_of 92 (by decide +kernel) rfl
theorem bw_40 : (Jvm.Cond.methodLink "java/util/ArrayList" (1 : Nat) ({ cls := "java/util/AbstractList", name := "<init>", desc := "()V" } : Jvm.MethodName)) ∈ BW := bw_of 93 (by decide +kernel) rfl
theorem bw_41 : (Jvm.Cond.instanceMethod ({ cls := "java/util/AbstractList", name := "<init>", desc := "()V" } : Jvm.MethodName)) ∈ BW := bw_of 94 (by decide +kernel) rfl
theorem bw_42 : (Jvm.Cond.code ({ cls := "java/util/AbstractList", name := "<init>", desc := "()V" } : Jvm.MethodName) prog_26_method_1_code (1 : Nat) (Option.none : Option Jvm.ClassFile.FieldType)) ∈ BW := bw_of 95 (by decide +kernel) rfl
theorem bw_43 : (Jvm.Cond.methodLink "java/util/AbstractList" (1 : Nat) ({ cls := "java/util/AbstractCollection", name := "<init>", desc := "()V" } : Jvm.MethodName)) ∈ BW := bw_of 96 (by decide +kernel) rfl
theorem bw_44 : (Jvm.Cond.instanceMethod ({ cls := "java/util/AbstractCollection", name := "<init>", desc := "()V" } : Jvm.MethodName)) ∈ BW := bw_of 97 (by decide +kernel) rfl
theorem bw_45 : (Jvm.Cond.code ({ cls := "java/util/AbstractCollection", name := "<init>", desc := "()V" } : Jvm.MethodName) prog_25_method_1_code (1 : Nat) (Option.none : Option Jvm.ClassFile.FieldType)) ∈ BW := bw_of 98 (by decide +kernel) rfl
theorem bw_46 : (Jvm.Cond.methodLink "java/util/AbstractCollection" (1 : Nat) ({ cls := "java/lang/Object", name := "<init>", desc := "()V" } : Jvm.MethodName)) ∈ BW := bw_of 99 (by decide +kernel) rfl
theorem bw_47 : (Jvm.Cond.fieldLink "java/util/ArrayList" (39 : Nat) "java/util/ArrayList" "DEFAULTCAPACITY_EMPTY_ELEMENTDATA" "[Ljava/lang/Object;") ∈ BW := bw_of 100 (by decide +kernel) rfl
theorem bw_49 : (Jvm.Cond.fieldLink "java/util/ArrayList" (9 : Nat) "java/util/ArrayList" "elementData" "[Ljava/lang/Object;") ∈ BW := bw_of 102 (by decide +kernel) rfl
theorem bw_50 : (Jvm.Cond.fieldLink "java/util/ArrayList" (48 : Nat) "java/util/ArrayList" "size" "I") ∈ BW := bw_of 103 (by decide +kernel) rfl
theorem bw_51 : (Jvm.Cond.fieldLink "java/util/AbstractList" (7 : Nat) "java/util/AbstractList" "modCount" "I") ∈ BW := bw_of 104 (by decide +kernel) rfl
theorem bw_52 : (Jvm.Cond.fieldLink "java/util/ArrayList" (63 : Nat) "java/util/ArrayList" "modCount" "I") ∈ BW := bw_of 105 (by decide +kernel) rfl
theorem bw_53 : (Jvm.Cond.sameField "java/util/ArrayList" "java/util/AbstractList" "modCount" "I") ∈ BW := bw_of 106 (by decide +kernel) rfl
theorem bw_61 : (Jvm.Cond.classLink "Badgewood" (25 : Nat) "Badgewood$Badge") ∈ BW := bw_of 114 (by decide +kernel) rfl
theorem nw_62 : (Jvm.Cond.arrayOver (Jvm.ClassFile.FieldType.object "Badgewood$Badge")) ∈ NW := nw_of 115 (by decide +kernel) rfl
theorem bw_63 : (Jvm.Cond.instantiable "Badgewood$Badge" (1 : Nat)) ∈ BW := bw_of 116 (by decide +kernel) rfl
theorem nw_64 : (Jvm.Cond.methodLinkNest "Badgewood" (31 : Nat) ({ cls := "Badgewood$Badge", name := "<init>", desc := "()V" } : Jvm.MethodName) "Badgewood") ∈ NW := nw_of 117 (by decide +kernel) rfl
theorem bw_65 : (Jvm.Cond.instanceMethod ({ cls := "Badgewood$Badge", name := "<init>", desc := "()V" } : Jvm.MethodName)) ∈ BW := bw_of 118 (by decide +kernel) rfl
theorem bw_66 : (Jvm.Cond.code ({ cls := "Badgewood$Badge", name := "<init>", desc := "()V" } : Jvm.MethodName) prog_2_method_1_code (1 : Nat) (Option.none : Option Jvm.ClassFile.FieldType)) ∈ BW := bw_of 119 (by decide +kernel) rfl
theorem bw_67 : (Jvm.Cond.methodLink "Badgewood$Badge" (1 : Nat) ({ cls := "java/lang/Object", name := "<init>", desc := "()V" } : Jvm.MethodName)) ∈ BW := bw_of 120 (by decide +kernel) rfl
theorem bw_68 : (Jvm.Cond.classLink "Badgewood$Badge" (7 : Nat) "java/util/ArrayList") ∈ BW := bw_of 121 (by decide +kernel) rfl
theorem bw_69 : (Jvm.Cond.methodLink "Badgewood$Badge" (9 : Nat) ({ cls := "java/util/ArrayList", name := "<init>", desc := "()V" } : Jvm.MethodName)) ∈ BW := bw_of 122 (by decide +kernel) rfl
theorem bw_70 : (Jvm.Cond.fieldLink "Badgewood$Badge" (10 : Nat) "Badgewood$Badge" "editions" "Ljava/util/ArrayList;") ∈ BW := bw_of 123 (by decide +kernel) rfl
theorem bw_71 : (Jvm.Cond.fieldLink "Badgewood" (180 : Nat) "Badgewood$Badge" "editions" "Ljava/util/ArrayList;") ∈ BW := bw_of 124 (by decide +kernel) rfl
theorem bw_75 : (Jvm.Cond.fieldLink "Badgewood" (10 : Nat) "Badgewood" "troops" "Ljava/util/ArrayList;") ∈ BW := bw_of 128 (by decide +kernel) rfl
theorem bw_76 : (Jvm.Cond.fieldLink "Badgewood" (16 : Nat) "Badgewood" "children" "Ljava/util/ArrayList;") ∈ BW := bw_of 129 (by decide +kernel) rfl
theorem bw_77 : (Jvm.Cond.fieldLink "Badgewood" (19 : Nat) "Badgewood" "leaders" "Ljava/util/ArrayList;") ∈ BW := bw_of 130 (by decide +kernel) rfl
theorem bw_78 : (Jvm.Cond.fieldLink "Badgewood" (22 : Nat) "Badgewood" "events" "Ljava/util/ArrayList;") ∈ BW := bw_of 131 (by decide +kernel) rfl
theorem bw_79 : (Jvm.Cond.fieldLink "Badgewood" (27 : Nat) "Badgewood" "badges" "[LBadgewood$Badge;") ∈ BW := bw_of 132 (by decide +kernel) rfl
theorem bw_80 : (Jvm.Cond.fieldLink "Badgewood" (32 : Nat) "Badgewood" "now" "I") ∈ BW := bw_of 133 (by decide +kernel) rfl
theorem bw_81 : (Jvm.Cond.fieldLink "Badgewood" (36 : Nat) "Badgewood" "nextTicket" "I") ∈ BW := bw_of 134 (by decide +kernel) rfl
theorem bw_97 : (Jvm.Cond.methodLink "BadgewoodLaw" (137 : Nat) ({ cls := "Badgewood", name := "season", desc := "()I" } : Jvm.MethodName)) ∈ BW := bw_of 150 (by decide +kernel) rfl
theorem bw_98 : (Jvm.Cond.instanceMethod ({ cls := "Badgewood", name := "season", desc := "()I" } : Jvm.MethodName)) ∈ BW := bw_of 151 (by decide +kernel) rfl
theorem bw_99 : (Jvm.Cond.selects "Badgewood" ({ cls := "Badgewood", name := "season", desc := "()I" } : Jvm.MethodName) ({ cls := "Badgewood", name := "season", desc := "()I" } : Jvm.MethodName)) ∈ BW := bw_of 152 (by decide +kernel) rfl
theorem bw_100 : (Jvm.Cond.code ({ cls := "Badgewood", name := "season", desc := "()I" } : Jvm.MethodName) prog_1_method_9_code (3 : Nat) (Option.some Jvm.ClassFile.FieldType.int)) ∈ BW := bw_of 153 (by decide +kernel) rfl
theorem bw_101 : (Jvm.Cond.methodLink "Badgewood" (43 : Nat) ({ cls := "java/util/ArrayList", name := "size", desc := "()I" } : Jvm.MethodName)) ∈ BW := bw_of 154 (by decide +kernel) rfl
theorem bw_102 : (Jvm.Cond.instanceMethod ({ cls := "java/util/ArrayList", name := "size", desc := "()I" } : Jvm.MethodName)) ∈ BW := bw_of 155 (by decide +kernel) rfl
theorem bw_103 : (Jvm.Cond.selects "java/util/ArrayList" ({ cls := "java/util/ArrayList", name := "size", desc := "()I" } : Jvm.MethodName) ({ cls := "java/util/ArrayList", name := "size", desc := "()I" } : Jvm.MethodName)) ∈ BW := bw_of 156 (by decide +kernel) rfl
theorem bw_104 : (Jvm.Cond.code ({ cls := "java/util/ArrayList", name := "size", desc := "()I" } : Jvm.MethodName) prog_27_method_8_code (1 : Nat) (Option.some Jvm.ClassFile.FieldType.int)) ∈ BW := bw_of 157 (by decide +kernel) rfl
theorem bw_105 : (Jvm.Cond.methodLink "Badgewood" (124 : Nat) ({ cls := "java/util/ArrayList", name := "get", desc := "(I)Ljava/lang/Object;" } : Jvm.MethodName)) ∈ BW := bw_of 158 (by decide +kernel) rfl
theorem bw_106 : (Jvm.Cond.instanceMethod ({ cls := "java/util/ArrayList", name := "get", desc := "(I)Ljava/lang/Object;" } : Jvm.MethodName)) ∈ BW := bw_of 159 (by decide +kernel) rfl
theorem bw_107 : (Jvm.Cond.selects "java/util/ArrayList" ({ cls := "java/util/ArrayList", name := "get", desc := "(I)Ljava/lang/Object;" } : Jvm.MethodName) ({ cls := "java/util/ArrayList", name := "get", desc := "(I)Ljava/lang/Object;" } : Jvm.MethodName)) ∈ BW := bw_of 160 (by decide +kernel) rfl
theorem bw_108 : (Jvm.Cond.code ({ cls := "java/util/ArrayList", name := "get", desc := "(I)Ljava/lang/Object;" } : Jvm.MethodName) prog_27_method_20_code (2 : Nat) (Option.some (Jvm.ClassFile.FieldType.object "java/lang/Object"))) ∈ BW := bw_of 161 (by decide +kernel) rfl
theorem bw_109 : (Jvm.Cond.methodLink "java/util/ArrayList" (118 : Nat) ({ cls := "java/util/Objects", name := "checkIndex", desc := "(II)I" } : Jvm.MethodName)) ∈ BW := bw_of 162 (by decide +kernel) rfl
theorem bw_110 : (Jvm.Cond.static ({ cls := "java/util/Objects", name := "checkIndex", desc := "(II)I" } : Jvm.MethodName)) ∈ BW := bw_of 163 (by decide +kernel) rfl
theorem bw_111 : (Jvm.Cond.code ({ cls := "java/util/Objects", name := "checkIndex", desc := "(II)I" } : Jvm.MethodName) prog_31_method_17_code (2 : Nat) (Option.some Jvm.ClassFile.FieldType.int)) ∈ BW := bw_of 164 (by decide +kernel) rfl
theorem bw_112 : (Jvm.Cond.methodLink "java/util/Objects" (105 : Nat) ({ cls := "jdk/internal/util/Preconditions", name := "checkIndex", desc := "(IILjava/util/function/BiFunction;)I" } : Jvm.MethodName)) ∈ BW := bw_of 165 (by decide +kernel) rfl
theorem bw_113 : (Jvm.Cond.static ({ cls := "jdk/internal/util/Preconditions", name := "checkIndex", desc := "(IILjava/util/function/BiFunction;)I" } : Jvm.MethodName)) ∈ BW := bw_of 166 (by decide +kernel) rfl
theorem bw_114 : (Jvm.Cond.code ({ cls := "jdk/internal/util/Preconditions", name := "checkIndex", desc := "(IILjava/util/function/BiFunction;)I" } : Jvm.MethodName) prog_35_method_11_code (3 : Nat) (Option.some Jvm.ClassFile.FieldType.int)) ∈ BW := bw_of 167 (by decide +kernel) rfl
theorem bw_115 : (Jvm.Cond.methodLink "java/util/ArrayList" (123 : Nat) ({ cls := "java/util/ArrayList", name := "elementData", desc := "(I)Ljava/lang/Object;" } : Jvm.MethodName)) ∈ BW := bw_of 168 (by decide +kernel) rfl
theorem bw_116 : (Jvm.Cond.instanceMethod ({ cls := "java/util/ArrayList", name := "elementData", desc := "(I)Ljava/lang/Object;" } : Jvm.MethodName)) ∈ BW := bw_of 169 (by decide +kernel) rfl
theorem bw_117 : (Jvm.Cond.selects "java/util/ArrayList" ({ cls := "java/util/ArrayList", name := "elementData", desc := "(I)Ljava/lang/Object;" } : Jvm.MethodName) ({ cls := "java/util/ArrayList", name := "elementData", desc := "(I)Ljava/lang/Object;" } : Jvm.MethodName)) ∈ BW := bw_of 170 (by decide +kernel) rfl
theorem bw_118 : (Jvm.Cond.code ({ cls := "java/util/ArrayList", name := "elementData", desc := "(I)Ljava/lang/Object;" } : Jvm.MethodName) prog_27_method_18_code (2 : Nat) (Option.some (Jvm.ClassFile.FieldType.object "java/lang/Object"))) ∈ BW := bw_of 171 (by decide +kernel) rfl
theorem bw_119 : (Jvm.Cond.classLink "Badgewood" (60 : Nat) "Badgewood$Child") ∈ BW := bw_of 172 (by decide +kernel) rfl
theorem bw_120 : (Jvm.Cond.methodLink "Badgewood" (128 : Nat) ({ cls := "Badgewood", name := "sendOutByAge", desc := "()I" } : Jvm.MethodName)) ∈ BW := bw_of 173 (by decide +kernel) rfl
theorem bw_122 : (Jvm.Cond.instanceMethod ({ cls := "Badgewood", name := "sendOutByAge", desc := "()I" } : Jvm.MethodName)) ∈ BW := bw_of 175 (by decide +kernel) rfl
theorem bw_123 : (Jvm.Cond.code ({ cls := "Badgewood", name := "sendOutByAge", desc := "()I" } : Jvm.MethodName) prog_1_method_49_code (3 : Nat) (Option.some Jvm.ClassFile.FieldType.int)) ∈ BW := bw_of 176 (by decide +kernel) rfl
theorem bw_124 : (Jvm.Cond.classLink "Badgewood" (51 : Nat) "Badgewood$Troop") ∈ BW := bw_of 177 (by decide +kernel) rfl
theorem bw_125 : (Jvm.Cond.methodLink "Badgewood" (327 : Nat) ({ cls := "Badgewood", name := "sendOutOf", desc := "(LBadgewood$Troop;)I" } : Jvm.MethodName)) ∈ BW := bw_of 178 (by decide +kernel) rfl
theorem bw_127 : (Jvm.Cond.instanceMethod ({ cls := "Badgewood", name := "sendOutOf", desc := "(LBadgewood$Troop;)I" } : Jvm.MethodName)) ∈ BW := bw_of 180 (by decide +kernel) rfl
theorem bw_128 : (Jvm.Cond.code ({ cls := "Badgewood", name := "sendOutOf", desc := "(LBadgewood$Troop;)I" } : Jvm.MethodName) prog_1_method_50_code (5 : Nat) (Option.some Jvm.ClassFile.FieldType.int)) ∈ BW := bw_of 181 (by decide +kernel) rfl
theorem bw_129 : (Jvm.Cond.methodLink "Badgewood" (88 : Nat) ({ cls := "Badgewood$Troop", name := "isFor", desc := "(I)Z" } : Jvm.MethodName)) ∈ BW := bw_of 182 (by decide +kernel) rfl
theorem bw_130 : (Jvm.Cond.instanceMethod ({ cls := "Badgewood$Troop", name := "isFor", desc := "(I)Z" } : Jvm.MethodName)) ∈ BW := bw_of 183 (by decide +kernel) rfl
theorem bw_131 : (Jvm.Cond.selects "Badgewood$Troop" ({ cls := "Badgewood$Troop", name := "isFor", desc := "(I)Z" } : Jvm.MethodName) ({ cls := "Badgewood$Troop", name := "isFor", desc := "(I)Z" } : Jvm.MethodName)) ∈ BW := bw_of 184 (by decide +kernel) rfl
theorem bw_132 : (Jvm.Cond.code ({ cls := "Badgewood$Troop", name := "isFor", desc := "(I)Z" } : Jvm.MethodName) prog_9_method_2_code (2 : Nat) (Option.some Jvm.ClassFile.FieldType.boolean)) ∈ BW := bw_of 185 (by decide +kernel) rfl
theorem bw_133 : (Jvm.Cond.methodLink "Badgewood" (100 : Nat) ({ cls := "Badgewood$Child", name := "goOut", desc := "()V" } : Jvm.MethodName)) ∈ BW := bw_of 186 (by decide +kernel) rfl
theorem bw_134 : (Jvm.Cond.instanceMethod ({ cls := "Badgewood$Child", name := "goOut", desc := "()V" } : Jvm.MethodName)) ∈ BW := bw_of 187 (by decide +kernel) rfl
theorem bw_135 : (Jvm.Cond.selects "Badgewood$Child" ({ cls := "Badgewood$Child", name := "goOut", desc := "()V" } : Jvm.MethodName) ({ cls := "Badgewood$Child", name := "goOut", desc := "()V" } : Jvm.MethodName)) ∈ BW := bw_of 188 (by decide +kernel) rfl
theorem bw_136 : (Jvm.Cond.code ({ cls := "Badgewood$Child", name := "goOut", desc := "()V" } : Jvm.MethodName) prog_3_method_2_code (1 : Nat) (Option.none : Option Jvm.ClassFile.FieldType)) ∈ BW := bw_of 189 (by decide +kernel) rfl
theorem bw_137 : (Jvm.Cond.methodLink "Badgewood" (131 : Nat) ({ cls := "Badgewood", name := "fillUp", desc := "(LBadgewood$Troop;)V" } : Jvm.MethodName)) ∈ BW := bw_of 190 (by decide +kernel) rfl
theorem bw_139 : (Jvm.Cond.instanceMethod ({ cls := "Badgewood", name := "fillUp", desc := "(LBadgewood$Troop;)V" } : Jvm.MethodName)) ∈ BW := bw_of 192 (by decide +kernel) rfl
theorem bw_140 : (Jvm.Cond.code ({ cls := "Badgewood", name := "fillUp", desc := "(LBadgewood$Troop;)V" } : Jvm.MethodName) prog_1_method_51_code (4 : Nat) (Option.none : Option Jvm.ClassFile.FieldType)) ∈ BW := bw_of 193 (by decide +kernel) rfl
theorem bw_141 : (Jvm.Cond.methodLink "Badgewood" (280 : Nat) ({ cls := "Badgewood", name := "childrenIn", desc := "(I)I" } : Jvm.MethodName)) ∈ BW := bw_of 194 (by decide +kernel) rfl
theorem bw_143 : (Jvm.Cond.instanceMethod ({ cls := "Badgewood", name := "childrenIn", desc := "(I)I" } : Jvm.MethodName)) ∈ BW := bw_of 196 (by decide +kernel) rfl
theorem bw_144 : (Jvm.Cond.code ({ cls := "Badgewood", name := "childrenIn", desc := "(I)I" } : Jvm.MethodName) prog_1_method_39_code (4 : Nat) (Option.some Jvm.ClassFile.FieldType.int)) ∈ BW := bw_of 197 (by decide +kernel) rfl
theorem bw_145 : (Jvm.Cond.methodLink "Badgewood" (103 : Nat) ({ cls := "Badgewood", name := "letFirstIn", desc := "(I)I" } : Jvm.MethodName)) ∈ BW := bw_of 198 (by decide +kernel) rfl
theorem bw_147 : (Jvm.Cond.instanceMethod ({ cls := "Badgewood", name := "letFirstIn", desc := "(I)I" } : Jvm.MethodName)) ∈ BW := bw_of 200 (by decide +kernel) rfl
theorem bw_148 : (Jvm.Cond.code ({ cls := "Badgewood", name := "letFirstIn", desc := "(I)I" } : Jvm.MethodName) prog_1_method_47_code (3 : Nat) (Option.some Jvm.ClassFile.FieldType.int)) ∈ BW := bw_of 201 (by decide +kernel) rfl
theorem bw_149 : (Jvm.Cond.methodLink "Badgewood" (323 : Nat) ({ cls := "Badgewood", name := "firstWaiting", desc := "(I)LBadgewood$Child;" } : Jvm.MethodName)) ∈ BW := bw_of 202 (by decide +kernel) rfl
theorem bw_151 : (Jvm.Cond.instanceMethod ({ cls := "Badgewood", name := "firstWaiting", desc := "(I)LBadgewood$Child;" } : Jvm.MethodName)) ∈ BW := bw_of 204 (by decide +kernel) rfl
theorem bw_152 : (Jvm.Cond.code ({ cls := "Badgewood", name := "firstWaiting", desc := "(I)LBadgewood$Child;" } : Jvm.MethodName) prog_1_method_48_code (5 : Nat) (Option.some (Jvm.ClassFile.FieldType.object "Badgewood$Child"))) ∈ BW := bw_of 205 (by decide +kernel) rfl
theorem bw_153 : (Jvm.Cond.methodLink "Badgewood" (313 : Nat) ({ cls := "Badgewood", name := "comeIn", desc := "(LBadgewood$Child;I)V" } : Jvm.MethodName)) ∈ BW := bw_of 206 (by decide +kernel) rfl
theorem bw_155 : (Jvm.Cond.instanceMethod ({ cls := "Badgewood", name := "comeIn", desc := "(LBadgewood$Child;I)V" } : Jvm.MethodName)) ∈ BW := bw_of 208 (by decide +kernel) rfl
theorem bw_156 : (Jvm.Cond.code ({ cls := "Badgewood", name := "comeIn", desc := "(LBadgewood$Child;I)V" } : Jvm.MethodName) prog_1_method_46_code (3 : Nat) (Option.none : Option Jvm.ClassFile.FieldType)) ∈ BW := bw_of 209 (by decide +kernel) rfl
theorem bw_157 : (Jvm.Cond.methodLink "Badgewood" (320 : Nat) ({ cls := "Badgewood", name := "smallestPatrol", desc := "(I)I" } : Jvm.MethodName)) ∈ BW := bw_of 210 (by decide +kernel) rfl
theorem bw_159 : (Jvm.Cond.instanceMethod ({ cls := "Badgewood", name := "smallestPatrol", desc := "(I)I" } : Jvm.MethodName)) ∈ BW := bw_of 212 (by decide +kernel) rfl
theorem bw_160 : (Jvm.Cond.code ({ cls := "Badgewood", name := "smallestPatrol", desc := "(I)I" } : Jvm.MethodName) prog_1_method_42_code (6 : Nat) (Option.some Jvm.ClassFile.FieldType.int)) ∈ BW := bw_of 213 (by decide +kernel) rfl
theorem bw_161 : (Jvm.Cond.methodLink "Badgewood" (307 : Nat) ({ cls := "Badgewood", name := "childrenInPatrol", desc := "(II)I" } : Jvm.MethodName)) ∈ BW := bw_of 214 (by decide +kernel) rfl
theorem bw_163 : (Jvm.Cond.instanceMethod ({ cls := "Badgewood", name := "childrenInPatrol", desc := "(II)I" } : Jvm.MethodName)) ∈ BW := bw_of 216 (by decide +kernel) rfl
theorem bw_164 : (Jvm.Cond.code ({ cls := "Badgewood", name := "childrenInPatrol", desc := "(II)I" } : Jvm.MethodName) prog_1_method_41_code (6 : Nat) (Option.some Jvm.ClassFile.FieldType.int)) ∈ BW := bw_of 217 (by decide +kernel) rfl
theorem bw_165 : (Jvm.Cond.methodLink "Badgewood" (135 : Nat) ({ cls := "Badgewood", name := "hasBit", desc := "(II)Z" } : Jvm.MethodName)) ∈ BW := bw_of 218 (by decide +kernel) rfl
theorem bw_166 : (Jvm.Cond.static ({ cls := "Badgewood", name := "hasBit", desc := "(II)Z" } : Jvm.MethodName)) ∈ BW := bw_of 219 (by decide +kernel) rfl
theorem bw_167 : (Jvm.Cond.code ({ cls := "Badgewood", name := "hasBit", desc := "(II)Z" } : Jvm.MethodName) prog_1_method_38_code (2 : Nat) (Option.some Jvm.ClassFile.FieldType.boolean)) ∈ BW := bw_of 220 (by decide +kernel) rfl
theorem bw_168 : (Jvm.Cond.methodLink "Badgewood" (139 : Nat) ({ cls := "Badgewood", name := "moveUp", desc := "(LBadgewood$Child;)V" } : Jvm.MethodName)) ∈ BW := bw_of 221 (by decide +kernel) rfl
theorem bw_170 : (Jvm.Cond.instanceMethod ({ cls := "Badgewood", name := "moveUp", desc := "(LBadgewood$Child;)V" } : Jvm.MethodName)) ∈ BW := bw_of 223 (by decide +kernel) rfl
theorem bw_171 : (Jvm.Cond.code ({ cls := "Badgewood", name := "moveUp", desc := "(LBadgewood$Child;)V" } : Jvm.MethodName) prog_1_method_52_code (3 : Nat) (Option.none : Option Jvm.ClassFile.FieldType)) ∈ BW := bw_of 224 (by decide +kernel) rfl
theorem bw_172 : (Jvm.Cond.methodLink "Badgewood" (94 : Nat) ({ cls := "Badgewood", name := "comeInOrWait", desc := "(LBadgewood$Child;LBadgewood$Troop;)I" } : Jvm.MethodName)) ∈ BW := bw_of 225 (by decide +kernel) rfl
theorem bw_174 : (Jvm.Cond.instanceMethod ({ cls := "Badgewood", name := "comeInOrWait", desc := "(LBadgewood$Child;LBadgewood$Troop;)I" } : Jvm.MethodName)) ∈ BW := bw_of 227 (by decide +kernel) rfl
theorem bw_175 : (Jvm.Cond.code ({ cls := "Badgewood", name := "comeInOrWait", desc := "(LBadgewood$Child;LBadgewood$Troop;)I" } : Jvm.MethodName) prog_1_method_45_code (3 : Nat) (Option.some Jvm.ClassFile.FieldType.int)) ∈ BW := bw_of 228 (by decide +kernel) rfl
theorem bw_176 : (Jvm.Cond.methodLink "Badgewood" (277 : Nat) ({ cls := "Badgewood", name := "waitingFor", desc := "(I)I" } : Jvm.MethodName)) ∈ BW := bw_of 229 (by decide +kernel) rfl
theorem bw_178 : (Jvm.Cond.instanceMethod ({ cls := "Badgewood", name := "waitingFor", desc := "(I)I" } : Jvm.MethodName)) ∈ BW := bw_of 231 (by decide +kernel) rfl
theorem bw_179 : (Jvm.Cond.code ({ cls := "Badgewood", name := "waitingFor", desc := "(I)I" } : Jvm.MethodName) prog_1_method_40_code (4 : Nat) (Option.some Jvm.ClassFile.FieldType.int)) ∈ BW := bw_of 232 (by decide +kernel) rfl
theorem bw_180 : (Jvm.Cond.methodLink "Badgewood" (143 : Nat) ({ cls := "java/lang/Integer", name := "bitCount", desc := "(I)I" } : Jvm.MethodName)) ∈ BW := bw_of 233 (by decide +kernel) rfl
theorem bw_181 : (Jvm.Cond.static ({ cls := "java/lang/Integer", name := "bitCount", desc := "(I)I" } : Jvm.MethodName)) ∈ BW := bw_of 234 (by decide +kernel) rfl
theorem bw_182 : (Jvm.Cond.code ({ cls := "java/lang/Integer", name := "bitCount", desc := "(I)I" } : Jvm.MethodName) prog_18_method_49_code (1 : Nat) (Option.some Jvm.ClassFile.FieldType.int)) ∈ BW := bw_of 235 (by decide +kernel) rfl
theorem bw_183 : (Jvm.Cond.constant "java/lang/Integer" (265 : Nat) (1431655765 : Int32)) ∈ BW := bw_of 236 (by decide +kernel) rfl
theorem bw_184 : (Jvm.Cond.constant "java/lang/Integer" (266 : Nat) (858993459 : Int32)) ∈ BW := bw_of 237 (by decide +kernel) rfl
theorem bw_185 : (Jvm.Cond.constant "java/lang/Integer" (267 : Nat) (252645135 : Int32)) ∈ BW := bw_of 238 (by decide +kernel) rfl
theorem bw_186 : (Jvm.Cond.methodLink "BadgewoodLaw" (188 : Nat) ({ cls := "Badgewood", name := "today", desc := "()I" } : Jvm.MethodName)) ∈ BW := bw_of 239 (by decide +kernel) rfl
theorem bw_187 : (Jvm.Cond.instanceMethod ({ cls := "Badgewood", name := "today", desc := "()I" } : Jvm.MethodName)) ∈ BW := bw_of 240 (by decide +kernel) rfl
theorem bw_188 : (Jvm.Cond.selects "Badgewood" ({ cls := "Badgewood", name := "today", desc := "()I" } : Jvm.MethodName) ({ cls := "Badgewood", name := "today", desc := "()I" } : Jvm.MethodName)) ∈ BW := bw_of 241 (by decide +kernel) rfl
theorem bw_189 : (Jvm.Cond.code ({ cls := "Badgewood", name := "today", desc := "()I" } : Jvm.MethodName) prog_1_method_24_code (1 : Nat) (Option.some Jvm.ClassFile.FieldType.int)) ∈ BW := bw_of 242 (by decide +kernel) rfl
theorem bw_190 : (Jvm.Cond.methodLink "BadgewoodLaw" (108 : Nat) ({ cls := "BadgewoodLaw", name := "troop", desc := "(LBadgewood;III[J)I" } : Jvm.MethodName)) ∈ BW := bw_of 243 (by decide +kernel) rfl
theorem bw_191 : (Jvm.Cond.static ({ cls := "BadgewoodLaw", name := "troop", desc := "(LBadgewood;III[J)I" } : Jvm.MethodName)) ∈ BW := bw_of 244 (by decide +kernel) rfl
theorem bw_192 : (Jvm.Cond.codeWith ({ cls := "BadgewoodLaw", name := "troop", desc := "(LBadgewood;III[J)I" } : Jvm.MethodName) method_3_code (6 : Nat) (Option.some Jvm.ClassFile.FieldType.int) [((0 : Nat), (12 : Nat), (15 : Nat), (13 : Nat)), ((0 : Nat), (12 : Nat), (19 : Nat), (15 : Nat))]) ∈ BW := bw_of 245 (by decide +kernel) rfl
theorem bw_193 : (Jvm.Cond.classLink "BadgewoodLaw" (13 : Nat) "java/lang/IllegalArgumentException") ∈ BW := bw_of 246 (by decide +kernel) rfl
theorem bw_194 : (Jvm.Cond.classLink "BadgewoodLaw" (15 : Nat) "java/lang/IllegalStateException") ∈ BW := bw_of 247 (by decide +kernel) rfl
theorem bw_195 : (Jvm.Cond.methodLink "BadgewoodLaw" (7 : Nat) ({ cls := "Badgewood", name := "troop", desc := "(III)I" } : Jvm.MethodName)) ∈ BW := bw_of 248 (by decide +kernel) rfl
theorem bw_196 : (Jvm.Cond.instanceMethod ({ cls := "Badgewood", name := "troop", desc := "(III)I" } : Jvm.MethodName)) ∈ BW := bw_of 249 (by decide +kernel) rfl
theorem bw_197 : (Jvm.Cond.selects "Badgewood" ({ cls := "Badgewood", name := "troop", desc := "(III)I" } : Jvm.MethodName) ({ cls := "Badgewood", name := "troop", desc := "(III)I" } : Jvm.MethodName)) ∈ BW := bw_of 250 (by decide +kernel) rfl
theorem bw_198 : (Jvm.Cond.code ({ cls := "Badgewood", name := "troop", desc := "(III)I" } : Jvm.MethodName) prog_1_method_2_code (5 : Nat) (Option.some Jvm.ClassFile.FieldType.int)) ∈ BW := bw_of 251 (by decide +kernel) rfl
theorem bw_199 : (Jvm.Cond.methodLink "Badgewood" (39 : Nat) ({ cls := "Badgewood", name := "requireRange", desc := "(III)V" } : Jvm.MethodName)) ∈ BW := bw_of 252 (by decide +kernel) rfl
theorem bw_200 : (Jvm.Cond.static ({ cls := "Badgewood", name := "requireRange", desc := "(III)V" } : Jvm.MethodName)) ∈ BW := bw_of 253 (by decide +kernel) rfl
theorem bw_201 : (Jvm.Cond.code ({ cls := "Badgewood", name := "requireRange", desc := "(III)V" } : Jvm.MethodName) prog_1_method_31_code (3 : Nat) (Option.none : Option Jvm.ClassFile.FieldType)) ∈ BW := bw_of 254 (by decide +kernel) rfl
theorem bw_202 : (Jvm.Cond.classLink "Badgewood" (175 : Nat) "java/lang/IllegalArgumentException") ∈ BW := bw_of 255 (by decide +kernel) rfl
theorem bw_203 : (Jvm.Cond.instantiable "java/lang/IllegalArgumentException" (6 : Nat)) ∈ BW := bw_of 256 (by decide +kernel) rfl
theorem nw_204 : (Jvm.Cond.castable "java/lang/IllegalArgumentException" "java/lang/IllegalArgumentException") ∈ NW := nw_of 257 (by decide +kernel) rfl
theorem nw_205 : (Jvm.Cond.declares ({ cls := "java/lang/RuntimeException", name := "<init>", desc := "()V" } : Jvm.MethodName)) ∈ NW := nw_of 258 (by decide +kernel) rfl
theorem nw_206 : (Jvm.Cond.declares ({ cls := "java/lang/RuntimeException", name := "<init>", desc := "(Ljava/lang/String;)V" } : Jvm.MethodName)) ∈ NW := nw_of 259 (by decide +kernel) rfl
theorem nw_207 : (Jvm.Cond.declares ({ cls := "java/lang/Exception", name := "<init>", desc := "()V" } : Jvm.MethodName)) ∈ NW := nw_of 260 (by decide +kernel) rfl
theorem nw_208 : (Jvm.Cond.declares ({ cls := "java/lang/Exception", name := "<init>", desc := "(Ljava/lang/String;)V" } : Jvm.MethodName)) ∈ NW := nw_of 261 (by decide +kernel) rfl
theorem nw_209 : (Jvm.Cond.declares ({ cls := "java/lang/Throwable", name := "<init>", desc := "()V" } : Jvm.MethodName)) ∈ NW := nw_of 262 (by decide +kernel) rfl
theorem nw_210 : (Jvm.Cond.declares ({ cls := "java/lang/Throwable", name := "<init>", desc := "(Ljava/lang/String;)V" } : Jvm.MethodName)) ∈ NW := nw_of 263 (by decide +kernel) rfl
theorem bw_211 : (Jvm.Cond.selects "java/lang/IllegalArgumentException" ({ cls := "java/lang/Throwable", name := "fillInStackTrace", desc := "(I)Ljava/lang/Throwable;" } : Jvm.MethodName) ({ cls := "java/lang/Throwable", name := "fillInStackTrace", desc := "(I)Ljava/lang/Throwable;" } : Jvm.MethodName)) ∈ BW := bw_of 264 (by decide +kernel) rfl
theorem bw_212 : (Jvm.Cond.selects "java/lang/IllegalArgumentException" ({ cls := "java/lang/Throwable", name := "fillInStackTrace", desc := "()Ljava/lang/Throwable;" } : Jvm.MethodName) ({ cls := "java/lang/Throwable", name := "fillInStackTrace", desc := "()Ljava/lang/Throwable;" } : Jvm.MethodName)) ∈ BW := bw_of 265 (by decide +kernel) rfl
theorem bw_223 : (Jvm.Cond.fieldLink "java/lang/Throwable" (198 : Nat) "java/lang/Throwable" "backtrace" "Ljava/lang/Object;") ∈ BW := bw_of 276 (by decide +kernel) rfl
theorem bw_225 : (Jvm.Cond.instanceMethod ({ cls := "java/lang/Throwable", name := "<init>", desc := "()V" } : Jvm.MethodName)) ∈ BW := bw_of 278 (by decide +kernel) rfl
theorem bw_226 : (Jvm.Cond.code ({ cls := "java/lang/Throwable", name := "<init>", desc := "()V" } : Jvm.MethodName) prog_24_method_1_code (1 : Nat) (Option.none : Option Jvm.ClassFile.FieldType)) ∈ BW := bw_of 279 (by decide +kernel) rfl
theorem bw_227 : (Jvm.Cond.methodLink "java/lang/Throwable" (1 : Nat) ({ cls := "java/lang/Object", name := "<init>", desc := "()V" } : Jvm.MethodName)) ∈ BW := bw_of 280 (by decide +kernel) rfl
theorem bw_228 : (Jvm.Cond.fieldLink "java/lang/Throwable" (13 : Nat) "java/lang/Throwable" "UNASSIGNED_STACK" "[Ljava/lang/StackTraceElement;") ∈ BW := bw_of 281 (by decide +kernel) rfl
theorem bw_230 : (Jvm.Cond.fieldLink "java/lang/Throwable" (20 : Nat) "java/lang/Throwable" "SUPPRESSED_SENTINEL" "Ljava/util/List;") ∈ BW := bw_of 283 (by decide +kernel) rfl
theorem bw_232 : (Jvm.Cond.methodLink "java/lang/Throwable" (27 : Nat) ({ cls := "java/lang/Throwable", name := "fillInStackTrace", desc := "()Ljava/lang/Throwable;" } : Jvm.MethodName)) ∈ BW := bw_of 285 (by decide +kernel) rfl
theorem bw_233 : (Jvm.Cond.instanceMethod ({ cls := "java/lang/Throwable", name := "fillInStackTrace", desc := "()Ljava/lang/Throwable;" } : Jvm.MethodName)) ∈ BW := bw_of 286 (by decide +kernel) rfl
theorem bw_234 : (Jvm.Cond.sameMethod "java/lang/Throwable" "java/lang/Throwable" "fillInStackTrace" "()Ljava/lang/Throwable;") ∈ BW := bw_of 287 (by decide +kernel) rfl
theorem bw_235 : (Jvm.Cond.selects "java/lang/IllegalStateException" ({ cls := "java/lang/Throwable", name := "fillInStackTrace", desc := "()Ljava/lang/Throwable;" } : Jvm.MethodName) ({ cls := "java/lang/Throwable", name := "fillInStackTrace", desc := "()Ljava/lang/Throwable;" } : Jvm.MethodName)) ∈ BW := bw_of 288 (by decide +kernel) rfl
theorem bw_236 : (Jvm.Cond.selects "java/lang/IndexOutOfBoundsException" ({ cls := "java/lang/Throwable", name := "fillInStackTrace", desc := "()Ljava/lang/Throwable;" } : Jvm.MethodName) ({ cls := "java/lang/Throwable", name := "fillInStackTrace", desc := "()Ljava/lang/Throwable;" } : Jvm.MethodName)) ∈ BW := bw_of 289 (by decide +kernel) rfl
theorem bw_237 : (Jvm.Cond.codeSync ({ cls := "java/lang/Throwable", name := "fillInStackTrace", desc := "()Ljava/lang/Throwable;" } : Jvm.MethodName) prog_24_method_18_code (1 : Nat) (Option.some (Jvm.ClassFile.FieldType.object "java/lang/Throwable"))) ∈ BW := bw_of 290 (by decide +kernel) rfl
theorem bw_238 : (Jvm.Cond.methodLink "java/lang/Throwable" (202 : Nat) ({ cls := "java/lang/Throwable", name := "fillInStackTrace", desc := "(I)Ljava/lang/Throwable;" } : Jvm.MethodName)) ∈ BW := bw_of 291 (by decide +kernel) rfl
theorem bw_240 : (Jvm.Cond.instanceMethod ({ cls := "java/lang/Throwable", name := "fillInStackTrace", desc := "(I)Ljava/lang/Throwable;" } : Jvm.MethodName)) ∈ BW := bw_of 293 (by decide +kernel) rfl
theorem bw_241 : (Jvm.Cond.instantiable "java/lang/Throwable" (6 : Nat)) ∈ BW := bw_of 294 (by decide +kernel) rfl
theorem bw_242 : (Jvm.Cond.native ({ cls := "java/lang/Throwable", name := "fillInStackTrace", desc := "(I)Ljava/lang/Throwable;" } : Jvm.MethodName)) ∈ BW := bw_of 295 (by decide +kernel) rfl
theorem bw_244 : (Jvm.Cond.methodLink "Badgewood" (179 : Nat) ({ cls := "java/lang/IllegalArgumentException", name := "<init>", desc := "(Ljava/lang/String;)V" } : Jvm.MethodName)) ∈ BW := bw_of 297 (by decide +kernel) rfl
theorem bw_245 : (Jvm.Cond.instanceMethod ({ cls := "java/lang/IllegalArgumentException", name := "<init>", desc := "(Ljava/lang/String;)V" } : Jvm.MethodName)) ∈ BW := bw_of 298 (by decide +kernel) rfl
theorem bw_246 : (Jvm.Cond.code ({ cls := "java/lang/IllegalArgumentException", name := "<init>", desc := "(Ljava/lang/String;)V" } : Jvm.MethodName) prog_15_method_2_code (2 : Nat) (Option.none : Option Jvm.ClassFile.FieldType)) ∈ BW := bw_of 299 (by decide +kernel) rfl
theorem bw_247 : (Jvm.Cond.methodLink "java/lang/IllegalArgumentException" (7 : Nat) ({ cls := "java/lang/RuntimeException", name := "<init>", desc := "(Ljava/lang/String;)V" } : Jvm.MethodName)) ∈ BW := bw_of 300 (by decide +kernel) rfl
theorem bw_248 : (Jvm.Cond.instanceMethod ({ cls := "java/lang/RuntimeException", name := "<init>", desc := "(Ljava/lang/String;)V" } : Jvm.MethodName)) ∈ BW := bw_of 301 (by decide +kernel) rfl
theorem bw_249 : (Jvm.Cond.code ({ cls := "java/lang/RuntimeException", name := "<init>", desc := "(Ljava/lang/String;)V" } : Jvm.MethodName) prog_21_method_2_code (2 : Nat) (Option.none : Option Jvm.ClassFile.FieldType)) ∈ BW := bw_of 302 (by decide +kernel) rfl
theorem bw_250 : (Jvm.Cond.methodLink "java/lang/RuntimeException" (7 : Nat) ({ cls := "java/lang/Exception", name := "<init>", desc := "(Ljava/lang/String;)V" } : Jvm.MethodName)) ∈ BW := bw_of 303 (by decide +kernel) rfl
theorem bw_251 : (Jvm.Cond.instanceMethod ({ cls := "java/lang/Exception", name := "<init>", desc := "(Ljava/lang/String;)V" } : Jvm.MethodName)) ∈ BW := bw_of 304 (by decide +kernel) rfl
theorem bw_252 : (Jvm.Cond.code ({ cls := "java/lang/Exception", name := "<init>", desc := "(Ljava/lang/String;)V" } : Jvm.MethodName) prog_14_method_2_code (2 : Nat) (Option.none : Option Jvm.ClassFile.FieldType)) ∈ BW := bw_of 305 (by decide +kernel) rfl
theorem bw_253 : (Jvm.Cond.methodLink "java/lang/Exception" (7 : Nat) ({ cls := "java/lang/Throwable", name := "<init>", desc := "(Ljava/lang/String;)V" } : Jvm.MethodName)) ∈ BW := bw_of 306 (by decide +kernel) rfl
theorem bw_254 : (Jvm.Cond.instanceMethod ({ cls := "java/lang/Throwable", name := "<init>", desc := "(Ljava/lang/String;)V" } : Jvm.MethodName)) ∈ BW := bw_of 307 (by decide +kernel) rfl
theorem bw_255 : (Jvm.Cond.code ({ cls := "java/lang/Throwable", name := "<init>", desc := "(Ljava/lang/String;)V" } : Jvm.MethodName) prog_24_method_2_code (2 : Nat) (Option.none : Option Jvm.ClassFile.FieldType)) ∈ BW := bw_of 308 (by decide +kernel) rfl
theorem bw_257 : (Jvm.Cond.fieldLink "java/lang/Throwable" (31 : Nat) "java/lang/Throwable" "detailMessage" "Ljava/lang/String;") ∈ BW := bw_of 310 (by decide +kernel) rfl
theorem bw_258 : (Jvm.Cond.fieldLink "java/lang/Throwable" (7 : Nat) "java/lang/Throwable" "cause" "Ljava/lang/Throwable;") ∈ BW := bw_of 311 (by decide +kernel) rfl
theorem bw_259 : (Jvm.Cond.fieldLink "java/lang/Throwable" (17 : Nat) "java/lang/Throwable" "stackTrace" "[Ljava/lang/StackTraceElement;") ∈ BW := bw_of 312 (by decide +kernel) rfl
theorem bw_260 : (Jvm.Cond.fieldLink "java/lang/Throwable" (24 : Nat) "java/lang/Throwable" "suppressedExceptions" "Ljava/util/List;") ∈ BW := bw_of 313 (by decide +kernel) rfl
theorem bw_269 : (Jvm.Cond.arrayClass Jvm.ClassFile.FieldType.byte) ∈ BW := bw_of 322 (by decide +kernel) rfl
theorem bw_270 : (Jvm.Cond.methodLink "Badgewood" (47 : Nat) ({ cls := "Badgewood", name := "requireRoom", desc := "(II)V" } : Jvm.MethodName)) ∈ BW := bw_of 323 (by decide +kernel) rfl
theorem bw_271 : (Jvm.Cond.static ({ cls := "Badgewood", name := "requireRoom", desc := "(II)V" } : Jvm.MethodName)) ∈ BW := bw_of 324 (by decide +kernel) rfl
theorem bw_272 : (Jvm.Cond.code ({ cls := "Badgewood", name := "requireRoom", desc := "(II)V" } : Jvm.MethodName) prog_1_method_32_code (2 : Nat) (Option.none : Option Jvm.ClassFile.FieldType)) ∈ BW := bw_of 325 (by decide +kernel) rfl
theorem bw_273 : (Jvm.Cond.classLink "Badgewood" (78 : Nat) "java/lang/IllegalStateException") ∈ BW := bw_of 326 (by decide +kernel) rfl
theorem bw_274 : (Jvm.Cond.instantiable "java/lang/IllegalStateException" (6 : Nat)) ∈ BW := bw_of 327 (by decide +kernel) rfl
theorem nw_275 : (Jvm.Cond.castable "java/lang/IllegalStateException" "java/lang/IllegalStateException") ∈ NW := nw_of 328 (by decide +kernel) rfl
theorem bw_276 : (Jvm.Cond.selects "java/lang/IllegalStateException" ({ cls := "java/lang/Throwable", name := "fillInStackTrace", desc := "(I)Ljava/lang/Throwable;" } : Jvm.MethodName) ({ cls := "java/lang/Throwable", name := "fillInStackTrace", desc := "(I)Ljava/lang/Throwable;" } : Jvm.MethodName)) ∈ BW := bw_of 329 (by decide +kernel) rfl
theorem bw_283 : (Jvm.Cond.methodLink "Badgewood" (82 : Nat) ({ cls := "java/lang/IllegalStateException", name := "<init>", desc := "(Ljava/lang/String;)V" } : Jvm.MethodName)) ∈ BW := bw_of 336 (by decide +kernel) rfl
theorem bw_284 : (Jvm.Cond.instanceMethod ({ cls := "java/lang/IllegalStateException", name := "<init>", desc := "(Ljava/lang/String;)V" } : Jvm.MethodName)) ∈ BW := bw_of 337 (by decide +kernel) rfl
theorem bw_285 : (Jvm.Cond.code ({ cls := "java/lang/IllegalStateException", name := "<init>", desc := "(Ljava/lang/String;)V" } : Jvm.MethodName) prog_16_method_2_code (2 : Nat) (Option.none : Option Jvm.ClassFile.FieldType)) ∈ BW := bw_of 338 (by decide +kernel) rfl
theorem bw_286 : (Jvm.Cond.methodLink "java/lang/IllegalStateException" (7 : Nat) ({ cls := "java/lang/RuntimeException", name := "<init>", desc := "(Ljava/lang/String;)V" } : Jvm.MethodName)) ∈ BW := bw_of 339 (by decide +kernel) rfl
theorem bw_289 : (Jvm.Cond.instantiable "Badgewood$Troop" (4 : Nat)) ∈ BW := bw_of 342 (by decide +kernel) rfl
theorem bw_290 : (Jvm.Cond.methodLink "Badgewood" (53 : Nat) ({ cls := "Badgewood$Troop", name := "<init>", desc := "(IIII)V" } : Jvm.MethodName)) ∈ BW := bw_of 343 (by decide +kernel) rfl
theorem bw_291 : (Jvm.Cond.instanceMethod ({ cls := "Badgewood$Troop", name := "<init>", desc := "(IIII)V" } : Jvm.MethodName)) ∈ BW := bw_of 344 (by decide +kernel) rfl
theorem bw_292 : (Jvm.Cond.code ({ cls := "Badgewood$Troop", name := "<init>", desc := "(IIII)V" } : Jvm.MethodName) prog_9_method_1_code (5 : Nat) (Option.none : Option Jvm.ClassFile.FieldType)) ∈ BW := bw_of 345 (by decide +kernel) rfl
theorem bw_293 : (Jvm.Cond.methodLink "Badgewood$Troop" (1 : Nat) ({ cls := "java/lang/Object", name := "<init>", desc := "()V" } : Jvm.MethodName)) ∈ BW := bw_of 346 (by decide +kernel) rfl
theorem bw_294 : (Jvm.Cond.fieldLink "Badgewood$Troop" (7 : Nat) "Badgewood$Troop" "number" "I") ∈ BW := bw_of 347 (by decide +kernel) rfl
theorem bw_295 : (Jvm.Cond.fieldLink "Badgewood" (112 : Nat) "Badgewood$Troop" "number" "I") ∈ BW := bw_of 348 (by decide +kernel) rfl
theorem bw_296 : (Jvm.Cond.fieldLink "Badgewood$Troop" (13 : Nat) "Badgewood$Troop" "from" "I") ∈ BW := bw_of 349 (by decide +kernel) rfl
theorem bw_297 : (Jvm.Cond.fieldLink "Badgewood$Troop" (16 : Nat) "Badgewood$Troop" "to" "I") ∈ BW := bw_of 350 (by decide +kernel) rfl
theorem bw_298 : (Jvm.Cond.fieldLink "Badgewood$Troop" (19 : Nat) "Badgewood$Troop" "room" "I") ∈ BW := bw_of 351 (by decide +kernel) rfl
theorem bw_299 : (Jvm.Cond.fieldLink "Badgewood" (310 : Nat) "Badgewood$Troop" "room" "I") ∈ BW := bw_of 352 (by decide +kernel) rfl
theorem bw_309 : (Jvm.Cond.methodLink "Badgewood" (56 : Nat) ({ cls := "java/util/ArrayList", name := "add", desc := "(Ljava/lang/Object;)Z" } : Jvm.MethodName)) ∈ BW := bw_of 362 (by decide +kernel) rfl
theorem bw_310 : (Jvm.Cond.instanceMethod ({ cls := "java/util/ArrayList", name := "add", desc := "(Ljava/lang/Object;)Z" } : Jvm.MethodName)) ∈ BW := bw_of 363 (by decide +kernel) rfl
theorem bw_311 : (Jvm.Cond.selects "java/util/ArrayList" ({ cls := "java/util/ArrayList", name := "add", desc := "(Ljava/lang/Object;)Z" } : Jvm.MethodName) ({ cls := "java/util/ArrayList", name := "add", desc := "(Ljava/lang/Object;)Z" } : Jvm.MethodName)) ∈ BW := bw_of 364 (by decide +kernel) rfl
theorem bw_312 : (Jvm.Cond.code ({ cls := "java/util/ArrayList", name := "add", desc := "(Ljava/lang/Object;)Z" } : Jvm.MethodName) prog_27_method_25_code (2 : Nat) (Option.some Jvm.ClassFile.FieldType.boolean)) ∈ BW := bw_of 365 (by decide +kernel) rfl
theorem bw_313 : (Jvm.Cond.methodLink "java/util/ArrayList" (131 : Nat) ({ cls := "java/util/ArrayList", name := "add", desc := "(Ljava/lang/Object;[Ljava/lang/Object;I)V" } : Jvm.MethodName)) ∈ BW := bw_of 366 (by decide +kernel) rfl
theorem bw_315 : (Jvm.Cond.instanceMethod ({ cls := "java/util/ArrayList", name := "add", desc := "(Ljava/lang/Object;[Ljava/lang/Object;I)V" } : Jvm.MethodName)) ∈ BW := bw_of 368 (by decide +kernel) rfl
theorem bw_316 : (Jvm.Cond.code ({ cls := "java/util/ArrayList", name := "add", desc := "(Ljava/lang/Object;[Ljava/lang/Object;I)V" } : Jvm.MethodName) prog_27_method_24_code (4 : Nat) (Option.none : Option Jvm.ClassFile.FieldType)) ∈ BW := bw_of 369 (by decide +kernel) rfl
theorem bw_317 : (Jvm.Cond.methodLink "java/util/ArrayList" (129 : Nat) ({ cls := "java/util/ArrayList", name := "grow", desc := "()[Ljava/lang/Object;" } : Jvm.MethodName)) ∈ BW := bw_of 370 (by decide +kernel) rfl
theorem bw_319 : (Jvm.Cond.instanceMethod ({ cls := "java/util/ArrayList", name := "grow", desc := "()[Ljava/lang/Object;" } : Jvm.MethodName)) ∈ BW := bw_of 372 (by decide +kernel) rfl
theorem bw_320 : (Jvm.Cond.code ({ cls := "java/util/ArrayList", name := "grow", desc := "()[Ljava/lang/Object;" } : Jvm.MethodName) prog_27_method_7_code (1 : Nat) (Option.some (Jvm.ClassFile.FieldType.array (Jvm.ClassFile.FieldType.object "java/lang/Object")))) ∈ BW := bw_of 373 (by decide +kernel) rfl
theorem bw_321 : (Jvm.Cond.methodLink "java/util/ArrayList" (69 : Nat) ({ cls := "java/util/ArrayList", name := "grow", desc := "(I)[Ljava/lang/Object;" } : Jvm.MethodName)) ∈ BW := bw_of 374 (by decide +kernel) rfl
theorem bw_323 : (Jvm.Cond.instanceMethod ({ cls := "java/util/ArrayList", name := "grow", desc := "(I)[Ljava/lang/Object;" } : Jvm.MethodName)) ∈ BW := bw_of 376 (by decide +kernel) rfl
theorem bw_324 : (Jvm.Cond.code ({ cls := "java/util/ArrayList", name := "grow", desc := "(I)[Ljava/lang/Object;" } : Jvm.MethodName) prog_27_method_6_code (4 : Nat) (Option.some (Jvm.ClassFile.FieldType.array (Jvm.ClassFile.FieldType.object "java/lang/Object")))) ∈ BW := bw_of 377 (by decide +kernel) rfl
theorem bw_325 : (Jvm.Cond.methodLink "java/util/ArrayList" (73 : Nat) ({ cls := "jdk/internal/util/ArraysSupport", name := "newLength", desc := "(III)I" } : Jvm.MethodName)) ∈ BW := bw_of 378 (by decide +kernel) rfl
theorem bw_326 : (Jvm.Cond.static ({ cls := "jdk/internal/util/ArraysSupport", name := "newLength", desc := "(III)I" } : Jvm.MethodName)) ∈ BW := bw_of 379 (by decide +kernel) rfl
theorem bw_327 : (Jvm.Cond.code ({ cls := "jdk/internal/util/ArraysSupport", name := "newLength", desc := "(III)I" } : Jvm.MethodName) prog_34_method_27_code (4 : Nat) (Option.some Jvm.ClassFile.FieldType.int)) ∈ BW := bw_of 380 (by decide +kernel) rfl
theorem bw_328 : (Jvm.Cond.methodLink "jdk/internal/util/ArraysSupport" (194 : Nat) ({ cls := "java/lang/Math", name := "max", desc := "(II)I" } : Jvm.MethodName)) ∈ BW := bw_of 381 (by decide +kernel) rfl
theorem bw_329 : (Jvm.Cond.static ({ cls := "java/lang/Math", name := "max", desc := "(II)I" } : Jvm.MethodName)) ∈ BW := bw_of 382 (by decide +kernel) rfl
theorem bw_330 : (Jvm.Cond.code ({ cls := "java/lang/Math", name := "max", desc := "(II)I" } : Jvm.MethodName) prog_20_method_65_code (2 : Nat) (Option.some Jvm.ClassFile.FieldType.int)) ∈ BW := bw_of 383 (by decide +kernel) rfl
theorem bw_331 : (Jvm.Cond.constant "jdk/internal/util/ArraysSupport" (200 : Nat) (2147483639 : Int32)) ∈ BW := bw_of 384 (by decide +kernel) rfl
theorem bw_332 : (Jvm.Cond.methodLink "jdk/internal/util/ArraysSupport" (201 : Nat) ({ cls := "jdk/internal/util/ArraysSupport", name := "hugeLength", desc := "(II)I" } : Jvm.MethodName)) ∈ BW := bw_of 385 (by decide +kernel) rfl
theorem bw_333 : (Jvm.Cond.static ({ cls := "jdk/internal/util/ArraysSupport", name := "hugeLength", desc := "(II)I" } : Jvm.MethodName)) ∈ BW := bw_of 386 (by decide +kernel) rfl
theorem bw_334 : (Jvm.Cond.code ({ cls := "jdk/internal/util/ArraysSupport", name := "hugeLength", desc := "(II)I" } : Jvm.MethodName) prog_34_method_28_code (3 : Nat) (Option.some Jvm.ClassFile.FieldType.int)) ∈ BW := bw_of 387 (by decide +kernel) rfl
theorem bw_335 : (Jvm.Cond.methodLink "java/util/ArrayList" (66 : Nat) ({ cls := "java/util/Arrays", name := "copyOf", desc := "([Ljava/lang/Object;I)[Ljava/lang/Object;" } : Jvm.MethodName)) ∈ BW := bw_of 388 (by decide +kernel) rfl
theorem bw_336 : (Jvm.Cond.static ({ cls := "java/util/Arrays", name := "copyOf", desc := "([Ljava/lang/Object;I)[Ljava/lang/Object;" } : Jvm.MethodName)) ∈ BW := bw_of 389 (by decide +kernel) rfl
theorem bw_337 : (Jvm.Cond.code ({ cls := "java/util/Arrays", name := "copyOf", desc := "([Ljava/lang/Object;I)[Ljava/lang/Object;" } : Jvm.MethodName) prog_28_method_119_code (2 : Nat) (Option.some (Jvm.ClassFile.FieldType.array (Jvm.ClassFile.FieldType.object "java/lang/Object")))) ∈ BW := bw_of 390 (by decide +kernel) rfl
theorem bw_338 : (Jvm.Cond.methodLink "java/util/Arrays" (86 : Nat) ({ cls := "java/lang/Object", name := "getClass", desc := "()Ljava/lang/Class;" } : Jvm.MethodName)) ∈ BW := bw_of 391 (by decide +kernel) rfl
theorem bw_339 : (Jvm.Cond.instanceMethod ({ cls := "java/lang/Object", name := "getClass", desc := "()Ljava/lang/Class;" } : Jvm.MethodName)) ∈ BW := bw_of 392 (by decide +kernel) rfl
theorem bw_340 : (Jvm.Cond.sameMethod "java/lang/Object" "java/lang/Object" "getClass" "()Ljava/lang/Class;") ∈ BW := bw_of 393 (by decide +kernel) rfl
theorem bw_341 : (Jvm.Cond.selects "Badgewood" ({ cls := "java/lang/Object", name := "getClass", desc := "()Ljava/lang/Class;" } : Jvm.MethodName) ({ cls := "java/lang/Object", name := "getClass", desc := "()Ljava/lang/Class;" } : Jvm.MethodName)) ∈ BW := bw_of 394 (by decide +kernel) rfl
theorem bw_342 : (Jvm.Cond.selects "Badgewood$Badge" ({ cls := "java/lang/Object", name := "getClass", desc := "()Ljava/lang/Class;" } : Jvm.MethodName) ({ cls := "java/lang/Object", name := "getClass", desc := "()Ljava/lang/Class;" } : Jvm.MethodName)) ∈ BW := bw_of 395 (by decide +kernel) rfl
theorem bw_343 : (Jvm.Cond.selects "Badgewood$Child" ({ cls := "java/lang/Object", name := "getClass", desc := "()Ljava/lang/Class;" } : Jvm.MethodName) ({ cls := "java/lang/Object", name := "getClass", desc := "()Ljava/lang/Class;" } : Jvm.MethodName)) ∈ BW := bw_of 396 (by decide +kernel) rfl
theorem bw_344 : (Jvm.Cond.selects "Badgewood$Course" ({ cls := "java/lang/Object", name := "getClass", desc := "()Ljava/lang/Class;" } : Jvm.MethodName) ({ cls := "java/lang/Object", name := "getClass", desc := "()Ljava/lang/Class;" } : Jvm.MethodName)) ∈ BW := bw_of 397 (by decide +kernel) rfl
theorem bw_345 : (Jvm.Cond.selects "Badgewood$Edition" ({ cls := "java/lang/Object", name := "getClass", desc := "()Ljava/lang/Class;" } : Jvm.MethodName) ({ cls := "java/lang/Object", name := "getClass", desc := "()Ljava/lang/Class;" } : Jvm.MethodName)) ∈ BW := bw_of 398 (by decide +kernel) rfl
theorem bw_346 : (Jvm.Cond.selects "Badgewood$Event" ({ cls := "java/lang/Object", name := "getClass", desc := "()Ljava/lang/Class;" } : Jvm.MethodName) ({ cls := "java/lang/Object", name := "getClass", desc := "()Ljava/lang/Class;" } : Jvm.MethodName)) ∈ BW := bw_of 399 (by decide +kernel) rfl
theorem bw_347 : (Jvm.Cond.selects "Badgewood$Leader" ({ cls := "java/lang/Object", name := "getClass", desc := "()Ljava/lang/Class;" } : Jvm.MethodName) ({ cls := "java/lang/Object", name := "getClass", desc := "()Ljava/lang/Class;" } : Jvm.MethodName)) ∈ BW := bw_of 400 (by decide +kernel) rfl
theorem bw_348 : (Jvm.Cond.selects "Badgewood$Need" ({ cls := "java/lang/Object", name := "getClass", desc := "()Ljava/lang/Class;" } : Jvm.MethodName) ({ cls := "java/lang/Object", name := "getClass", desc := "()Ljava/lang/Class;" } : Jvm.MethodName)) ∈ BW := bw_of 401 (by decide +kernel) rfl
theorem bw_349 : (Jvm.Cond.selects "Badgewood$Troop" ({ cls := "java/lang/Object", name := "getClass", desc := "()Ljava/lang/Class;" } : Jvm.MethodName) ({ cls := "java/lang/Object", name := "getClass", desc := "()Ljava/lang/Class;" } : Jvm.MethodName)) ∈ BW := bw_of 402 (by decide +kernel) rfl
theorem bw_350 : (Jvm.Cond.selects "BadgewoodModel" ({ cls := "java/lang/Object", name := "getClass", desc := "()Ljava/lang/Class;" } : Jvm.MethodName) ({ cls := "java/lang/Object", name := "getClass", desc := "()Ljava/lang/Class;" } : Jvm.MethodName)) ∈ BW := bw_of 403 (by decide +kernel) rfl
theorem bw_351 : (Jvm.Cond.selects "java/lang/IllegalArgumentException" ({ cls := "java/lang/Object", name := "getClass", desc := "()Ljava/lang/Class;" } : Jvm.MethodName) ({ cls := "java/lang/Object", name := "getClass", desc := "()Ljava/lang/Class;" } : Jvm.MethodName)) ∈ BW := bw_of 404 (by decide +kernel) rfl
theorem bw_352 : (Jvm.Cond.selects "java/lang/IllegalStateException" ({ cls := "java/lang/Object", name := "getClass", desc := "()Ljava/lang/Class;" } : Jvm.MethodName) ({ cls := "java/lang/Object", name := "getClass", desc := "()Ljava/lang/Class;" } : Jvm.MethodName)) ∈ BW := bw_of 405 (by decide +kernel) rfl
theorem bw_353 : (Jvm.Cond.selects "java/lang/IndexOutOfBoundsException" ({ cls := "java/lang/Object", name := "getClass", desc := "()Ljava/lang/Class;" } : Jvm.MethodName) ({ cls := "java/lang/Object", name := "getClass", desc := "()Ljava/lang/Class;" } : Jvm.MethodName)) ∈ BW := bw_of 406 (by decide +kernel) rfl
theorem bw_354 : (Jvm.Cond.selects "java/util/ArrayList" ({ cls := "java/lang/Object", name := "getClass", desc := "()Ljava/lang/Class;" } : Jvm.MethodName) ({ cls := "java/lang/Object", name := "getClass", desc := "()Ljava/lang/Class;" } : Jvm.MethodName)) ∈ BW := bw_of 407 (by decide +kernel) rfl
theorem bw_355 : (Jvm.Cond.native ({ cls := "java/lang/Object", name := "getClass", desc := "()Ljava/lang/Class;" } : Jvm.MethodName)) ∈ BW := bw_of 408 (by decide +kernel) rfl
theorem bw_356 : (Jvm.Cond.methodLink "java/util/Arrays" (300 : Nat) ({ cls := "java/util/Arrays", name := "copyOf", desc := "([Ljava/lang/Object;ILjava/lang/Class;)[Ljava/lang/Object;" } : Jvm.MethodName)) ∈ BW := bw_of 409 (by decide +kernel) rfl
theorem bw_357 : (Jvm.Cond.static ({ cls := "java/util/Arrays", name := "copyOf", desc := "([Ljava/lang/Object;ILjava/lang/Class;)[Ljava/lang/Object;" } : Jvm.MethodName)) ∈ BW := bw_of 410 (by decide +kernel) rfl
theorem bw_358 : (Jvm.Cond.code ({ cls := "java/util/Arrays", name := "copyOf", desc := "([Ljava/lang/Object;ILjava/lang/Class;)[Ljava/lang/Object;" } : Jvm.MethodName) prog_28_method_120_code (4 : Nat) (Option.some (Jvm.ClassFile.FieldType.array (Jvm.ClassFile.FieldType.object "java/lang/Object")))) ∈ BW := bw_of 411 (by decide +kernel) rfl
theorem bw_359 : (Jvm.Cond.classLink "java/util/Arrays" (110 : Nat) "[Ljava/lang/Object;") ∈ BW := bw_of 412 (by decide +kernel) rfl
theorem nw_360 : (Jvm.Cond.arrayOver (Jvm.ClassFile.FieldType.object "java/lang/Object")) ∈ NW := nw_of 413 (by decide +kernel) rfl
theorem bw_361 : (Jvm.Cond.classLink "java/util/Arrays" (2 : Nat) "java/lang/Object") ∈ BW := bw_of 414 (by decide +kernel) rfl
theorem bw_362 : (Jvm.Cond.methodLink "java/util/Arrays" (304 : Nat) ({ cls := "java/lang/Math", name := "min", desc := "(II)I" } : Jvm.MethodName)) ∈ BW := bw_of 415 (by decide +kernel) rfl
theorem bw_363 : (Jvm.Cond.static ({ cls := "java/lang/Math", name := "min", desc := "(II)I" } : Jvm.MethodName)) ∈ BW := bw_of 416 (by decide +kernel) rfl
theorem bw_364 : (Jvm.Cond.code ({ cls := "java/lang/Math", name := "min", desc := "(II)I" } : Jvm.MethodName) prog_20_method_69_code (2 : Nat) (Option.some Jvm.ClassFile.FieldType.int)) ∈ BW := bw_of 417 (by decide +kernel) rfl
theorem bw_365 : (Jvm.Cond.methodLink "java/util/Arrays" (150 : Nat) ({ cls := "java/lang/System", name := "arraycopy", desc := "(Ljava/lang/Object;ILjava/lang/Object;II)V" } : Jvm.MethodName)) ∈ BW := bw_of 418 (by decide +kernel) rfl
theorem bw_366 : (Jvm.Cond.static ({ cls := "java/lang/System", name := "arraycopy", desc := "(Ljava/lang/Object;ILjava/lang/Object;II)V" } : Jvm.MethodName)) ∈ BW := bw_of 419 (by decide +kernel) rfl
theorem bw_367 : (Jvm.Cond.native ({ cls := "java/lang/System", name := "arraycopy", desc := "(Ljava/lang/Object;ILjava/lang/Object;II)V" } : Jvm.MethodName)) ∈ BW := bw_of 420 (by decide +kernel) rfl
theorem bw_368 : (Jvm.Cond.methodLink "java/util/ArrayList" (79 : Nat) ({ cls := "java/lang/Math", name := "max", desc := "(II)I" } : Jvm.MethodName)) ∈ BW := bw_of 421 (by decide +kernel) rfl
theorem bw_369 : (Jvm.Cond.classLink "java/util/ArrayList" (7 : Nat) "java/lang/Object") ∈ BW := bw_of 422 (by decide +kernel) rfl
theorem bw_370 : (Jvm.Cond.methodLink "BadgewoodLaw" (117 : Nat) ({ cls := "BadgewoodLaw", name := "child", desc := "(LBadgewood;I[J)I" } : Jvm.MethodName)) ∈ BW := bw_of 423 (by decide +kernel) rfl
theorem bw_371 : (Jvm.Cond.static ({ cls := "BadgewoodLaw", name := "child", desc := "(LBadgewood;I[J)I" } : Jvm.MethodName)) ∈ BW := bw_of 424 (by decide +kernel) rfl
theorem bw_372 : (Jvm.Cond.codeWith ({ cls := "BadgewoodLaw", name := "child", desc := "(LBadgewood;I[J)I" } : Jvm.MethodName) method_4_code (4 : Nat) (Option.some Jvm.ClassFile.FieldType.int) [((0 : Nat), (9 : Nat), (12 : Nat), (13 : Nat)), ((0 : Nat), (9 : Nat), (15 : Nat), (15 : Nat))]) ∈ BW := bw_of 425 (by decide +kernel) rfl
theorem bw_373 : (Jvm.Cond.methodLink "BadgewoodLaw" (17 : Nat) ({ cls := "Badgewood", name := "child", desc := "(I)I" } : Jvm.MethodName)) ∈ BW := bw_of 426 (by decide +kernel) rfl
theorem bw_374 : (Jvm.Cond.instanceMethod ({ cls := "Badgewood", name := "child", desc := "(I)I" } : Jvm.MethodName)) ∈ BW := bw_of 427 (by decide +kernel) rfl
theorem bw_375 : (Jvm.Cond.selects "Badgewood" ({ cls := "Badgewood", name := "child", desc := "(I)I" } : Jvm.MethodName) ({ cls := "Badgewood", name := "child", desc := "(I)I" } : Jvm.MethodName)) ∈ BW := bw_of 428 (by decide +kernel) rfl
theorem bw_376 : (Jvm.Cond.code ({ cls := "Badgewood", name := "child", desc := "(I)I" } : Jvm.MethodName) prog_1_method_3_code (3 : Nat) (Option.some Jvm.ClassFile.FieldType.int)) ∈ BW := bw_of 429 (by decide +kernel) rfl
theorem bw_377 : (Jvm.Cond.instantiable "Badgewood$Child" (14 : Nat)) ∈ BW := bw_of 430 (by decide +kernel) rfl
theorem bw_378 : (Jvm.Cond.methodLink "Badgewood" (62 : Nat) ({ cls := "Badgewood$Child", name := "<init>", desc := "(II)V" } : Jvm.MethodName)) ∈ BW := bw_of 431 (by decide +kernel) rfl
theorem bw_379 : (Jvm.Cond.instanceMethod ({ cls := "Badgewood$Child", name := "<init>", desc := "(II)V" } : Jvm.MethodName)) ∈ BW := bw_of 432 (by decide +kernel) rfl
theorem bw_380 : (Jvm.Cond.code ({ cls := "Badgewood$Child", name := "<init>", desc := "(II)V" } : Jvm.MethodName) prog_3_method_1_code (3 : Nat) (Option.none : Option Jvm.ClassFile.FieldType)) ∈ BW := bw_of 433 (by decide +kernel) rfl
theorem bw_381 : (Jvm.Cond.methodLink "Badgewood$Child" (3 : Nat) ({ cls := "java/lang/Object", name := "<init>", desc := "()V" } : Jvm.MethodName)) ∈ BW := bw_of 434 (by decide +kernel) rfl
theorem bw_382 : (Jvm.Cond.classLink "Badgewood$Child" (31 : Nat) "Badgewood$Course") ∈ BW := bw_of 435 (by decide +kernel) rfl
theorem nw_383 : (Jvm.Cond.arrayOver (Jvm.ClassFile.FieldType.object "Badgewood$Course")) ∈ NW := nw_of 436 (by decide +kernel) rfl
theorem bw_384 : (Jvm.Cond.fieldLink "Badgewood$Child" (37 : Nat) "Badgewood$Child" "number" "I") ∈ BW := bw_of 437 (by decide +kernel) rfl
theorem bw_385 : (Jvm.Cond.fieldLink "Badgewood" (326 : Nat) "Badgewood$Child" "number" "I") ∈ BW := bw_of 438 (by decide +kernel) rfl
theorem bw_386 : (Jvm.Cond.fieldLink "Badgewood$Child" (40 : Nat) "Badgewood$Child" "age" "I") ∈ BW := bw_of 439 (by decide +kernel) rfl
theorem bw_387 : (Jvm.Cond.fieldLink "Badgewood" (85 : Nat) "Badgewood$Child" "age" "I") ∈ BW := bw_of 440 (by decide +kernel) rfl
theorem bw_388 : (Jvm.Cond.fieldLink "Badgewood$Child" (9 : Nat) "Badgewood$Child" "troop" "I") ∈ BW := bw_of 441 (by decide +kernel) rfl
theorem bw_389 : (Jvm.Cond.fieldLink "Badgewood" (72 : Nat) "Badgewood$Child" "troop" "I") ∈ BW := bw_of 442 (by decide +kernel) rfl
theorem bw_390 : (Jvm.Cond.fieldLink "Badgewood$Child" (15 : Nat) "Badgewood$Child" "awaited" "I") ∈ BW := bw_of 443 (by decide +kernel) rfl
theorem bw_391 : (Jvm.Cond.fieldLink "Badgewood" (75 : Nat) "Badgewood$Child" "awaited" "I") ∈ BW := bw_of 444 (by decide +kernel) rfl
theorem bw_392 : (Jvm.Cond.fieldLink "Badgewood$Child" (18 : Nat) "Badgewood$Child" "patrol" "I") ∈ BW := bw_of 445 (by decide +kernel) rfl
theorem bw_393 : (Jvm.Cond.fieldLink "Badgewood" (109 : Nat) "Badgewood$Child" "patrol" "I") ∈ BW := bw_of 446 (by decide +kernel) rfl
theorem bw_394 : (Jvm.Cond.fieldLink "Badgewood" (317 : Nat) "Badgewood$Child" "ticket" "I") ∈ BW := bw_of 447 (by decide +kernel) rfl
theorem bw_395 : (Jvm.Cond.fieldLink "Badgewood" (268 : Nat) "Badgewood$Child" "boxes" "I") ∈ BW := bw_of 448 (by decide +kernel) rfl
theorem bw_396 : (Jvm.Cond.fieldLink "Badgewood" (260 : Nat) "Badgewood$Child" "coins" "I") ∈ BW := bw_of 449 (by decide +kernel) rfl
theorem bw_397 : (Jvm.Cond.fieldLink "Badgewood$Child" (21 : Nat) "Badgewood$Child" "creditor" "I") ∈ BW := bw_of 450 (by decide +kernel) rfl
theorem bw_398 : (Jvm.Cond.fieldLink "Badgewood" (263 : Nat) "Badgewood$Child" "creditor" "I") ∈ BW := bw_of 451 (by decide +kernel) rfl
theorem bw_399 : (Jvm.Cond.fieldLink "Badgewood$Child" (49 : Nat) "Badgewood$Child" "proven" "I") ∈ BW := bw_of 452 (by decide +kernel) rfl
theorem bw_400 : (Jvm.Cond.fieldLink "Badgewood" (212 : Nat) "Badgewood$Child" "proven" "I") ∈ BW := bw_of 453 (by decide +kernel) rfl
theorem bw_401 : (Jvm.Cond.fieldLink "Badgewood$Child" (46 : Nat) "Badgewood$Child" "proofs" "I") ∈ BW := bw_of 454 (by decide +kernel) rfl
theorem bw_402 : (Jvm.Cond.fieldLink "Badgewood$Child" (24 : Nat) "Badgewood$Child" "skillOfProof" "[I") ∈ BW := bw_of 455 (by decide +kernel) rfl
theorem bw_403 : (Jvm.Cond.fieldLink "Badgewood$Child" (28 : Nat) "Badgewood$Child" "dayOfProof" "[I") ∈ BW := bw_of 456 (by decide +kernel) rfl
theorem bw_404 : (Jvm.Cond.fieldLink "Badgewood$Child" (33 : Nat) "Badgewood$Child" "courses" "[LBadgewood$Course;") ∈ BW := bw_of 457 (by decide +kernel) rfl
theorem bw_434 : (Jvm.Cond.arrayClass Jvm.ClassFile.FieldType.int) ∈ BW := bw_of 487 (by decide +kernel) rfl
theorem bw_435 : (Jvm.Cond.methodLink "BadgewoodLaw" (121 : Nat) ({ cls := "BadgewoodLaw", name := "join", desc := "(LBadgewood;II[J)I" } : Jvm.MethodName)) ∈ BW := bw_of 488 (by decide +kernel) rfl
theorem bw_436 : (Jvm.Cond.static ({ cls := "BadgewoodLaw", name := "join", desc := "(LBadgewood;II[J)I" } : Jvm.MethodName)) ∈ BW := bw_of 489 (by decide +kernel) rfl
theorem bw_437 : (Jvm.Cond.codeWith ({ cls := "BadgewoodLaw", name := "join", desc := "(LBadgewood;II[J)I" } : Jvm.MethodName) method_5_code (5 : Nat) (Option.some Jvm.ClassFile.FieldType.int) [((0 : Nat), (10 : Nat), (13 : Nat), (25 : Nat)), ((0 : Nat), (10 : Nat), (17 : Nat), (15 : Nat))]) ∈ BW := bw_of 490 (by decide +kernel) rfl
theorem bw_438 : (Jvm.Cond.classLink "BadgewoodLaw" (25 : Nat) "java/lang/IndexOutOfBoundsException") ∈ BW := bw_of 491 (by decide +kernel) rfl
theorem bw_439 : (Jvm.Cond.methodLink "BadgewoodLaw" (21 : Nat) ({ cls := "Badgewood", name := "join", desc := "(II)I" } : Jvm.MethodName)) ∈ BW := bw_of 492 (by decide +kernel) rfl
theorem bw_440 : (Jvm.Cond.instanceMethod ({ cls := "Badgewood", name := "join", desc := "(II)I" } : Jvm.MethodName)) ∈ BW := bw_of 493 (by decide +kernel) rfl
theorem bw_441 : (Jvm.Cond.selects "Badgewood" ({ cls := "Badgewood", name := "join", desc := "(II)I" } : Jvm.MethodName) ({ cls := "Badgewood", name := "join", desc := "(II)I" } : Jvm.MethodName)) ∈ BW := bw_of 494 (by decide +kernel) rfl
theorem bw_442 : (Jvm.Cond.code ({ cls := "Badgewood", name := "join", desc := "(II)I" } : Jvm.MethodName) prog_1_method_4_code (5 : Nat) (Option.some Jvm.ClassFile.FieldType.int)) ∈ BW := bw_of 495 (by decide +kernel) rfl
theorem bw_443 : (Jvm.Cond.methodLink "Badgewood" (64 : Nat) ({ cls := "Badgewood", name := "childAt", desc := "(I)LBadgewood$Child;" } : Jvm.MethodName)) ∈ BW := bw_of 496 (by decide +kernel) rfl
theorem bw_445 : (Jvm.Cond.instanceMethod ({ cls := "Badgewood", name := "childAt", desc := "(I)LBadgewood$Child;" } : Jvm.MethodName)) ∈ BW := bw_of 498 (by decide +kernel) rfl
theorem bw_446 : (Jvm.Cond.code ({ cls := "Badgewood", name := "childAt", desc := "(I)LBadgewood$Child;" } : Jvm.MethodName) prog_1_method_34_code (2 : Nat) (Option.some (Jvm.ClassFile.FieldType.object "Badgewood$Child"))) ∈ BW := bw_of 499 (by decide +kernel) rfl
theorem bw_447 : (Jvm.Cond.methodLink "Badgewood" (155 : Nat) ({ cls := "Badgewood", name := "requireIndex", desc := "(II)V" } : Jvm.MethodName)) ∈ BW := bw_of 500 (by decide +kernel) rfl
theorem bw_448 : (Jvm.Cond.static ({ cls := "Badgewood", name := "requireIndex", desc := "(II)V" } : Jvm.MethodName)) ∈ BW := bw_of 501 (by decide +kernel) rfl
theorem bw_449 : (Jvm.Cond.code ({ cls := "Badgewood", name := "requireIndex", desc := "(II)V" } : Jvm.MethodName) prog_1_method_30_code (2 : Nat) (Option.none : Option Jvm.ClassFile.FieldType)) ∈ BW := bw_of 502 (by decide +kernel) rfl
theorem bw_450 : (Jvm.Cond.classLink "Badgewood" (298 : Nat) "java/lang/IndexOutOfBoundsException") ∈ BW := bw_of 503 (by decide +kernel) rfl
theorem bw_451 : (Jvm.Cond.instantiable "java/lang/IndexOutOfBoundsException" (6 : Nat)) ∈ BW := bw_of 504 (by decide +kernel) rfl
theorem nw_452 : (Jvm.Cond.castable "java/lang/IndexOutOfBoundsException" "java/lang/IndexOutOfBoundsException") ∈ NW := nw_of 505 (by decide +kernel) rfl
theorem bw_453 : (Jvm.Cond.selects "java/lang/IndexOutOfBoundsException" ({ cls := "java/lang/Throwable", name := "fillInStackTrace", desc := "(I)Ljava/lang/Throwable;" } : Jvm.MethodName) ({ cls := "java/lang/Throwable", name := "fillInStackTrace", desc := "(I)Ljava/lang/Throwable;" } : Jvm.MethodName)) ∈ BW := bw_of 506 (by decide +kernel) rfl
theorem bw_460 : (Jvm.Cond.methodLink "Badgewood" (302 : Nat) ({ cls := "java/lang/IndexOutOfBoundsException", name := "<init>", desc := "(Ljava/lang/String;)V" } : Jvm.MethodName)) ∈ BW := bw_of 513 (by decide +kernel) rfl
theorem bw_461 : (Jvm.Cond.instanceMethod ({ cls := "java/lang/IndexOutOfBoundsException", name := "<init>", desc := "(Ljava/lang/String;)V" } : Jvm.MethodName)) ∈ BW := bw_of 514 (by decide +kernel) rfl
theorem bw_462 : (Jvm.Cond.code ({ cls := "java/lang/IndexOutOfBoundsException", name := "<init>", desc := "(Ljava/lang/String;)V" } : Jvm.MethodName) prog_17_method_2_code (2 : Nat) (Option.none : Option Jvm.ClassFile.FieldType)) ∈ BW := bw_of 515 (by decide +kernel) rfl
theorem bw_463 : (Jvm.Cond.methodLink "java/lang/IndexOutOfBoundsException" (7 : Nat) ({ cls := "java/lang/RuntimeException", name := "<init>", desc := "(Ljava/lang/String;)V" } : Jvm.MethodName)) ∈ BW := bw_of 516 (by decide +kernel) rfl
theorem bw_466 : (Jvm.Cond.methodLink "Badgewood" (68 : Nat) ({ cls := "Badgewood", name := "troopAt", desc := "(I)LBadgewood$Troop;" } : Jvm.MethodName)) ∈ BW := bw_of 519 (by decide +kernel) rfl
theorem bw_468 : (Jvm.Cond.instanceMethod ({ cls := "Badgewood", name := "troopAt", desc := "(I)LBadgewood$Troop;" } : Jvm.MethodName)) ∈ BW := bw_of 521 (by decide +kernel) rfl
theorem bw_469 : (Jvm.Cond.code ({ cls := "Badgewood", name := "troopAt", desc := "(I)LBadgewood$Troop;" } : Jvm.MethodName) prog_1_method_33_code (2 : Nat) (Option.some (Jvm.ClassFile.FieldType.object "Badgewood$Troop"))) ∈ BW := bw_of 522 (by decide +kernel) rfl
theorem bw_472 : (Jvm.Cond.methodLink "BadgewoodLaw" (125 : Nat) ({ cls := "BadgewoodLaw", name := "leave", desc := "(LBadgewood;I[J)I" } : Jvm.MethodName)) ∈ BW := bw_of 525 (by decide +kernel) rfl
theorem bw_473 : (Jvm.Cond.static ({ cls := "BadgewoodLaw", name := "leave", desc := "(LBadgewood;I[J)I" } : Jvm.MethodName)) ∈ BW := bw_of 526 (by decide +kernel) rfl
theorem bw_474 : (Jvm.Cond.codeWith ({ cls := "BadgewoodLaw", name := "leave", desc := "(LBadgewood;I[J)I" } : Jvm.MethodName) method_6_code (4 : Nat) (Option.some Jvm.ClassFile.FieldType.int) [((0 : Nat), (9 : Nat), (12 : Nat), (25 : Nat)), ((0 : Nat), (9 : Nat), (15 : Nat), (15 : Nat))]) ∈ BW := bw_of 527 (by decide +kernel) rfl
theorem bw_475 : (Jvm.Cond.methodLink "BadgewoodLaw" (27 : Nat) ({ cls := "Badgewood", name := "leave", desc := "(I)I" } : Jvm.MethodName)) ∈ BW := bw_of 528 (by decide +kernel) rfl
theorem bw_476 : (Jvm.Cond.instanceMethod ({ cls := "Badgewood", name := "leave", desc := "(I)I" } : Jvm.MethodName)) ∈ BW := bw_of 529 (by decide +kernel) rfl
theorem bw_477 : (Jvm.Cond.selects "Badgewood" ({ cls := "Badgewood", name := "leave", desc := "(I)I" } : Jvm.MethodName) ({ cls := "Badgewood", name := "leave", desc := "(I)I" } : Jvm.MethodName)) ∈ BW := bw_of 530 (by decide +kernel) rfl
theorem bw_478 : (Jvm.Cond.code ({ cls := "Badgewood", name := "leave", desc := "(I)I" } : Jvm.MethodName) prog_1_method_5_code (4 : Nat) (Option.some Jvm.ClassFile.FieldType.int)) ∈ BW := bw_of 531 (by decide +kernel) rfl
theorem bw_480 : (Jvm.Cond.methodLink "BadgewoodLaw" (128 : Nat) ({ cls := "BadgewoodLaw", name := "patrol", desc := "(LBadgewood;II[J)I" } : Jvm.MethodName)) ∈ BW := bw_of 533 (by decide +kernel) rfl
theorem bw_481 : (Jvm.Cond.static ({ cls := "BadgewoodLaw", name := "patrol", desc := "(LBadgewood;II[J)I" } : Jvm.MethodName)) ∈ BW := bw_of 534 (by decide +kernel) rfl
theorem bw_482 : (Jvm.Cond.codeWith ({ cls := "BadgewoodLaw", name := "patrol", desc := "(LBadgewood;II[J)I" } : Jvm.MethodName) method_7_code (5 : Nat) (Option.some Jvm.ClassFile.FieldType.int) [((0 : Nat), (10 : Nat), (13 : Nat), (25 : Nat)), ((0 : Nat), (10 : Nat), (17 : Nat), (13 : Nat)), ((0 : Nat), (10 : Nat), (21 : Nat), (15 : Nat))]) ∈ BW := bw_of 535 (by decide +kernel) rfl
theorem bw_483 : (Jvm.Cond.methodLink "BadgewoodLaw" (30 : Nat) ({ cls := "Badgewood", name := "patrol", desc := "(II)I" } : Jvm.MethodName)) ∈ BW := bw_of 536 (by decide +kernel) rfl
theorem bw_484 : (Jvm.Cond.instanceMethod ({ cls := "Badgewood", name := "patrol", desc := "(II)I" } : Jvm.MethodName)) ∈ BW := bw_of 537 (by decide +kernel) rfl
theorem bw_485 : (Jvm.Cond.selects "Badgewood" ({ cls := "Badgewood", name := "patrol", desc := "(II)I" } : Jvm.MethodName) ({ cls := "Badgewood", name := "patrol", desc := "(II)I" } : Jvm.MethodName)) ∈ BW := bw_of 538 (by decide +kernel) rfl
theorem bw_486 : (Jvm.Cond.code ({ cls := "Badgewood", name := "patrol", desc := "(II)I" } : Jvm.MethodName) prog_1_method_6_code (5 : Nat) (Option.some Jvm.ClassFile.FieldType.int)) ∈ BW := bw_of 539 (by decide +kernel) rfl
theorem bw_488 : (Jvm.Cond.methodLink "BadgewoodLaw" (131 : Nat) ({ cls := "BadgewoodLaw", name := "duty", desc := "(LBadgewood;II[J)I" } : Jvm.MethodName)) ∈ BW := bw_of 541 (by decide +kernel) rfl
theorem bw_489 : (Jvm.Cond.static ({ cls := "BadgewoodLaw", name := "duty", desc := "(LBadgewood;II[J)I" } : Jvm.MethodName)) ∈ BW := bw_of 542 (by decide +kernel) rfl
theorem bw_490 : (Jvm.Cond.codeWith ({ cls := "BadgewoodLaw", name := "duty", desc := "(LBadgewood;II[J)I" } : Jvm.MethodName) method_8_code (5 : Nat) (Option.some Jvm.ClassFile.FieldType.int) [((0 : Nat), (10 : Nat), (13 : Nat), (25 : Nat)), ((0 : Nat), (10 : Nat), (17 : Nat), (13 : Nat))]) ∈ BW := bw_of 543 (by decide +kernel) rfl
theorem bw_491 : (Jvm.Cond.methodLink "BadgewoodLaw" (33 : Nat) ({ cls := "Badgewood", name := "duty", desc := "(II)I" } : Jvm.MethodName)) ∈ BW := bw_of 544 (by decide +kernel) rfl
theorem bw_492 : (Jvm.Cond.instanceMethod ({ cls := "Badgewood", name := "duty", desc := "(II)I" } : Jvm.MethodName)) ∈ BW := bw_of 545 (by decide +kernel) rfl
theorem bw_493 : (Jvm.Cond.selects "Badgewood" ({ cls := "Badgewood", name := "duty", desc := "(II)I" } : Jvm.MethodName) ({ cls := "Badgewood", name := "duty", desc := "(II)I" } : Jvm.MethodName)) ∈ BW := bw_of 546 (by decide +kernel) rfl
theorem bw_494 : (Jvm.Cond.code ({ cls := "Badgewood", name := "duty", desc := "(II)I" } : Jvm.MethodName) prog_1_method_7_code (5 : Nat) (Option.some Jvm.ClassFile.FieldType.int)) ∈ BW := bw_of 547 (by decide +kernel) rfl
theorem bw_495 : (Jvm.Cond.methodLink "Badgewood" (115 : Nat) ({ cls := "Badgewood", name := "filledPatrols", desc := "(I)I" } : Jvm.MethodName)) ∈ BW := bw_of 548 (by decide +kernel) rfl
theorem bw_497 : (Jvm.Cond.instanceMethod ({ cls := "Badgewood", name := "filledPatrols", desc := "(I)I" } : Jvm.MethodName)) ∈ BW := bw_of 550 (by decide +kernel) rfl
theorem bw_498 : (Jvm.Cond.code ({ cls := "Badgewood", name := "filledPatrols", desc := "(I)I" } : Jvm.MethodName) prog_1_method_43_code (4 : Nat) (Option.some Jvm.ClassFile.FieldType.int)) ∈ BW := bw_of 551 (by decide +kernel) rfl
theorem bw_499 : (Jvm.Cond.methodLink "Badgewood" (118 : Nat) ({ cls := "Badgewood", name := "filledPatrolAt", desc := "(II)I" } : Jvm.MethodName)) ∈ BW := bw_of 552 (by decide +kernel) rfl
theorem bw_501 : (Jvm.Cond.instanceMethod ({ cls := "Badgewood", name := "filledPatrolAt", desc := "(II)I" } : Jvm.MethodName)) ∈ BW := bw_of 554 (by decide +kernel) rfl
theorem bw_502 : (Jvm.Cond.code ({ cls := "Badgewood", name := "filledPatrolAt", desc := "(II)I" } : Jvm.MethodName) prog_1_method_44_code (5 : Nat) (Option.some Jvm.ClassFile.FieldType.int)) ∈ BW := bw_of 555 (by decide +kernel) rfl
theorem bw_503 : (Jvm.Cond.methodLink "BadgewoodLaw" (134 : Nat) ({ cls := "BadgewoodLaw", name := "pass", desc := "(LBadgewood;I[J)I" } : Jvm.MethodName)) ∈ BW := bw_of 556 (by decide +kernel) rfl
theorem bw_504 : (Jvm.Cond.static ({ cls := "BadgewoodLaw", name := "pass", desc := "(LBadgewood;I[J)I" } : Jvm.MethodName)) ∈ BW := bw_of 557 (by decide +kernel) rfl
theorem bw_505 : (Jvm.Cond.codeWith ({ cls := "BadgewoodLaw", name := "pass", desc := "(LBadgewood;I[J)I" } : Jvm.MethodName) method_9_code (4 : Nat) (Option.some Jvm.ClassFile.FieldType.int) [((0 : Nat), (9 : Nat), (12 : Nat), (13 : Nat)), ((0 : Nat), (9 : Nat), (15 : Nat), (15 : Nat))]) ∈ BW := bw_of 558 (by decide +kernel) rfl
theorem bw_506 : (Jvm.Cond.methodLink "BadgewoodLaw" (36 : Nat) ({ cls := "Badgewood", name := "pass", desc := "(I)I" } : Jvm.MethodName)) ∈ BW := bw_of 559 (by decide +kernel) rfl
theorem bw_507 : (Jvm.Cond.instanceMethod ({ cls := "Badgewood", name := "pass", desc := "(I)I" } : Jvm.MethodName)) ∈ BW := bw_of 560 (by decide +kernel) rfl
theorem bw_508 : (Jvm.Cond.selects "Badgewood" ({ cls := "Badgewood", name := "pass", desc := "(I)I" } : Jvm.MethodName) ({ cls := "Badgewood", name := "pass", desc := "(I)I" } : Jvm.MethodName)) ∈ BW := bw_of 561 (by decide +kernel) rfl
theorem bw_509 : (Jvm.Cond.code ({ cls := "Badgewood", name := "pass", desc := "(I)I" } : Jvm.MethodName) prog_1_method_8_code (2 : Nat) (Option.some Jvm.ClassFile.FieldType.int)) ∈ BW := bw_of 562 (by decide +kernel) rfl
theorem bw_511 : (Jvm.Cond.methodLink "BadgewoodLaw" (141 : Nat) ({ cls := "BadgewoodLaw", name := "leader", desc := "(LBadgewood;[J)I" } : Jvm.MethodName)) ∈ BW := bw_of 564 (by decide +kernel) rfl
theorem bw_512 : (Jvm.Cond.static ({ cls := "BadgewoodLaw", name := "leader", desc := "(LBadgewood;[J)I" } : Jvm.MethodName)) ∈ BW := bw_of 565 (by decide +kernel) rfl
theorem bw_513 : (Jvm.Cond.codeWith ({ cls := "BadgewoodLaw", name := "leader", desc := "(LBadgewood;[J)I" } : Jvm.MethodName) method_10_code (3 : Nat) (Option.some Jvm.ClassFile.FieldType.int) [((0 : Nat), (8 : Nat), (11 : Nat), (15 : Nat))]) ∈ BW := bw_of 566 (by decide +kernel) rfl
theorem bw_514 : (Jvm.Cond.methodLink "BadgewoodLaw" (39 : Nat) ({ cls := "Badgewood", name := "leader", desc := "()I" } : Jvm.MethodName)) ∈ BW := bw_of 567 (by decide +kernel) rfl
theorem bw_515 : (Jvm.Cond.instanceMethod ({ cls := "Badgewood", name := "leader", desc := "()I" } : Jvm.MethodName)) ∈ BW := bw_of 568 (by decide +kernel) rfl
theorem bw_516 : (Jvm.Cond.selects "Badgewood" ({ cls := "Badgewood", name := "leader", desc := "()I" } : Jvm.MethodName) ({ cls := "Badgewood", name := "leader", desc := "()I" } : Jvm.MethodName)) ∈ BW := bw_of 569 (by decide +kernel) rfl
theorem bw_517 : (Jvm.Cond.code ({ cls := "Badgewood", name := "leader", desc := "()I" } : Jvm.MethodName) prog_1_method_10_code (1 : Nat) (Option.some Jvm.ClassFile.FieldType.int)) ∈ BW := bw_of 570 (by decide +kernel) rfl
theorem bw_518 : (Jvm.Cond.classLink "Badgewood" (148 : Nat) "Badgewood$Leader") ∈ BW := bw_of 571 (by decide +kernel) rfl
theorem bw_519 : (Jvm.Cond.instantiable "Badgewood$Leader" (4 : Nat)) ∈ BW := bw_of 572 (by decide +kernel) rfl
theorem nw_520 : (Jvm.Cond.methodLinkNest "Badgewood" (150 : Nat) ({ cls := "Badgewood$Leader", name := "<init>", desc := "()V" } : Jvm.MethodName) "Badgewood") ∈ NW := nw_of 573 (by decide +kernel) rfl
theorem bw_521 : (Jvm.Cond.instanceMethod ({ cls := "Badgewood$Leader", name := "<init>", desc := "()V" } : Jvm.MethodName)) ∈ BW := bw_of 574 (by decide +kernel) rfl
theorem bw_522 : (Jvm.Cond.code ({ cls := "Badgewood$Leader", name := "<init>", desc := "()V" } : Jvm.MethodName) prog_7_method_1_code (1 : Nat) (Option.none : Option Jvm.ClassFile.FieldType)) ∈ BW := bw_of 575 (by decide +kernel) rfl
theorem bw_523 : (Jvm.Cond.methodLink "Badgewood$Leader" (3 : Nat) ({ cls := "java/lang/Object", name := "<init>", desc := "()V" } : Jvm.MethodName)) ∈ BW := bw_of 576 (by decide +kernel) rfl
theorem bw_524 : (Jvm.Cond.fieldLink "Badgewood$Leader" (9 : Nat) "Badgewood$Leader" "vettedFrom" "[I") ∈ BW := bw_of 577 (by decide +kernel) rfl
theorem bw_525 : (Jvm.Cond.fieldLink "Badgewood$Leader" (15 : Nat) "Badgewood$Leader" "vettedTo" "[I") ∈ BW := bw_of 578 (by decide +kernel) rfl
theorem bw_526 : (Jvm.Cond.fieldLink "Badgewood$Leader" (18 : Nat) "Badgewood$Leader" "permits" "[I") ∈ BW := bw_of 579 (by decide +kernel) rfl
theorem bw_527 : (Jvm.Cond.fieldLink "Badgewood" (168 : Nat) "Badgewood$Leader" "taught" "I") ∈ BW := bw_of 580 (by decide +kernel) rfl
theorem bw_537 : (Jvm.Cond.methodLink "BadgewoodLaw" (145 : Nat) ({ cls := "BadgewoodLaw", name := "vet", desc := "(LBadgewood;IIII)I" } : Jvm.MethodName)) ∈ BW := bw_of 590 (by decide +kernel) rfl
theorem bw_538 : (Jvm.Cond.static ({ cls := "BadgewoodLaw", name := "vet", desc := "(LBadgewood;IIII)I" } : Jvm.MethodName)) ∈ BW := bw_of 591 (by decide +kernel) rfl
theorem bw_539 : (Jvm.Cond.codeWith ({ cls := "BadgewoodLaw", name := "vet", desc := "(LBadgewood;IIII)I" } : Jvm.MethodName) method_11_code (6 : Nat) (Option.some Jvm.ClassFile.FieldType.int) [((0 : Nat), (9 : Nat), (12 : Nat), (25 : Nat)), ((0 : Nat), (9 : Nat), (16 : Nat), (13 : Nat))]) ∈ BW := bw_of 592 (by decide +kernel) rfl
theorem bw_540 : (Jvm.Cond.methodLink "BadgewoodLaw" (43 : Nat) ({ cls := "Badgewood", name := "vet", desc := "(IIII)V" } : Jvm.MethodName)) ∈ BW := bw_of 593 (by decide +kernel) rfl
theorem bw_541 : (Jvm.Cond.instanceMethod ({ cls := "Badgewood", name := "vet", desc := "(IIII)V" } : Jvm.MethodName)) ∈ BW := bw_of 594 (by decide +kernel) rfl
theorem bw_542 : (Jvm.Cond.selects "Badgewood" ({ cls := "Badgewood", name := "vet", desc := "(IIII)V" } : Jvm.MethodName) ({ cls := "Badgewood", name := "vet", desc := "(IIII)V" } : Jvm.MethodName)) ∈ BW := bw_of 595 (by decide +kernel) rfl
theorem bw_543 : (Jvm.Cond.code ({ cls := "Badgewood", name := "vet", desc := "(IIII)V" } : Jvm.MethodName) prog_1_method_11_code (6 : Nat) (Option.none : Option Jvm.ClassFile.FieldType)) ∈ BW := bw_of 596 (by decide +kernel) rfl
theorem bw_544 : (Jvm.Cond.methodLink "Badgewood" (151 : Nat) ({ cls := "Badgewood", name := "leaderAt", desc := "(I)LBadgewood$Leader;" } : Jvm.MethodName)) ∈ BW := bw_of 597 (by decide +kernel) rfl
theorem bw_546 : (Jvm.Cond.instanceMethod ({ cls := "Badgewood", name := "leaderAt", desc := "(I)LBadgewood$Leader;" } : Jvm.MethodName)) ∈ BW := bw_of 599 (by decide +kernel) rfl
theorem bw_547 : (Jvm.Cond.code ({ cls := "Badgewood", name := "leaderAt", desc := "(I)LBadgewood$Leader;" } : Jvm.MethodName) prog_1_method_35_code (2 : Nat) (Option.some (Jvm.ClassFile.FieldType.object "Badgewood$Leader"))) ∈ BW := bw_of 600 (by decide +kernel) rfl
theorem bw_548 : (Jvm.Cond.methodLink "Badgewood" (158 : Nat) ({ cls := "Badgewood$Leader", name := "setVetted", desc := "(III)V" } : Jvm.MethodName)) ∈ BW := bw_of 601 (by decide +kernel) rfl
theorem bw_549 : (Jvm.Cond.instanceMethod ({ cls := "Badgewood$Leader", name := "setVetted", desc := "(III)V" } : Jvm.MethodName)) ∈ BW := bw_of 602 (by decide +kernel) rfl
theorem bw_550 : (Jvm.Cond.selects "Badgewood$Leader" ({ cls := "Badgewood$Leader", name := "setVetted", desc := "(III)V" } : Jvm.MethodName) ({ cls := "Badgewood$Leader", name := "setVetted", desc := "(III)V" } : Jvm.MethodName)) ∈ BW := bw_of 603 (by decide +kernel) rfl
theorem bw_551 : (Jvm.Cond.code ({ cls := "Badgewood$Leader", name := "setVetted", desc := "(III)V" } : Jvm.MethodName) prog_7_method_2_code (4 : Nat) (Option.none : Option Jvm.ClassFile.FieldType)) ∈ BW := bw_of 604 (by decide +kernel) rfl
theorem bw_552 : (Jvm.Cond.methodLink "BadgewoodLaw" (149 : Nat) ({ cls := "BadgewoodLaw", name := "permit", desc := "(LBadgewood;III[J)I" } : Jvm.MethodName)) ∈ BW := bw_of 605 (by decide +kernel) rfl
theorem bw_553 : (Jvm.Cond.static ({ cls := "BadgewoodLaw", name := "permit", desc := "(LBadgewood;III[J)I" } : Jvm.MethodName)) ∈ BW := bw_of 606 (by decide +kernel) rfl
theorem bw_554 : (Jvm.Cond.codeWith ({ cls := "BadgewoodLaw", name := "permit", desc := "(LBadgewood;III[J)I" } : Jvm.MethodName) method_12_code (6 : Nat) (Option.some Jvm.ClassFile.FieldType.int) [((0 : Nat), (12 : Nat), (15 : Nat), (25 : Nat)), ((0 : Nat), (12 : Nat), (19 : Nat), (13 : Nat))]) ∈ BW := bw_of 607 (by decide +kernel) rfl
theorem bw_555 : (Jvm.Cond.methodLink "BadgewoodLaw" (47 : Nat) ({ cls := "Badgewood", name := "permit", desc := "(III)I" } : Jvm.MethodName)) ∈ BW := bw_of 608 (by decide +kernel) rfl
theorem bw_556 : (Jvm.Cond.instanceMethod ({ cls := "Badgewood", name := "permit", desc := "(III)I" } : Jvm.MethodName)) ∈ BW := bw_of 609 (by decide +kernel) rfl
theorem bw_557 : (Jvm.Cond.selects "Badgewood" ({ cls := "Badgewood", name := "permit", desc := "(III)I" } : Jvm.MethodName) ({ cls := "Badgewood", name := "permit", desc := "(III)I" } : Jvm.MethodName)) ∈ BW := bw_of 610 (by decide +kernel) rfl
theorem bw_558 : (Jvm.Cond.code ({ cls := "Badgewood", name := "permit", desc := "(III)I" } : Jvm.MethodName) prog_1_method_12_code (6 : Nat) (Option.some Jvm.ClassFile.FieldType.int)) ∈ BW := bw_of 611 (by decide +kernel) rfl
theorem bw_559 : (Jvm.Cond.methodLink "Badgewood" (161 : Nat) ({ cls := "Badgewood$Leader", name := "permitOf", desc := "(I)I" } : Jvm.MethodName)) ∈ BW := bw_of 612 (by decide +kernel) rfl
theorem bw_560 : (Jvm.Cond.instanceMethod ({ cls := "Badgewood$Leader", name := "permitOf", desc := "(I)I" } : Jvm.MethodName)) ∈ BW := bw_of 613 (by decide +kernel) rfl
theorem bw_561 : (Jvm.Cond.selects "Badgewood$Leader" ({ cls := "Badgewood$Leader", name := "permitOf", desc := "(I)I" } : Jvm.MethodName) ({ cls := "Badgewood$Leader", name := "permitOf", desc := "(I)I" } : Jvm.MethodName)) ∈ BW := bw_of 614 (by decide +kernel) rfl
theorem bw_562 : (Jvm.Cond.code ({ cls := "Badgewood$Leader", name := "permitOf", desc := "(I)I" } : Jvm.MethodName) prog_7_method_6_code (2 : Nat) (Option.some Jvm.ClassFile.FieldType.int)) ∈ BW := bw_of 615 (by decide +kernel) rfl
theorem bw_563 : (Jvm.Cond.methodLink "Badgewood" (164 : Nat) ({ cls := "Badgewood$Leader", name := "setPermit", desc := "(II)V" } : Jvm.MethodName)) ∈ BW := bw_of 616 (by decide +kernel) rfl
theorem bw_564 : (Jvm.Cond.instanceMethod ({ cls := "Badgewood$Leader", name := "setPermit", desc := "(II)V" } : Jvm.MethodName)) ∈ BW := bw_of 617 (by decide +kernel) rfl
theorem bw_565 : (Jvm.Cond.selects "Badgewood$Leader" ({ cls := "Badgewood$Leader", name := "setPermit", desc := "(II)V" } : Jvm.MethodName) ({ cls := "Badgewood$Leader", name := "setPermit", desc := "(II)V" } : Jvm.MethodName)) ∈ BW := bw_of 618 (by decide +kernel) rfl
theorem bw_566 : (Jvm.Cond.code ({ cls := "Badgewood$Leader", name := "setPermit", desc := "(II)V" } : Jvm.MethodName) prog_7_method_5_code (3 : Nat) (Option.none : Option Jvm.ClassFile.FieldType)) ∈ BW := bw_of 619 (by decide +kernel) rfl
theorem bw_567 : (Jvm.Cond.methodLink "BadgewoodLaw" (152 : Nat) ({ cls := "BadgewoodLaw", name := "teach", desc := "(LBadgewood;II[J)I" } : Jvm.MethodName)) ∈ BW := bw_of 620 (by decide +kernel) rfl
theorem bw_568 : (Jvm.Cond.static ({ cls := "BadgewoodLaw", name := "teach", desc := "(LBadgewood;II[J)I" } : Jvm.MethodName)) ∈ BW := bw_of 621 (by decide +kernel) rfl
theorem bw_569 : (Jvm.Cond.codeWith ({ cls := "BadgewoodLaw", name := "teach", desc := "(LBadgewood;II[J)I" } : Jvm.MethodName) method_13_code (5 : Nat) (Option.some Jvm.ClassFile.FieldType.int) [((0 : Nat), (10 : Nat), (13 : Nat), (25 : Nat)), ((0 : Nat), (10 : Nat), (17 : Nat), (13 : Nat))]) ∈ BW := bw_of 622 (by decide +kernel) rfl
theorem bw_570 : (Jvm.Cond.methodLink "BadgewoodLaw" (50 : Nat) ({ cls := "Badgewood", name := "teach", desc := "(II)I" } : Jvm.MethodName)) ∈ BW := bw_of 623 (by decide +kernel) rfl
theorem bw_571 : (Jvm.Cond.instanceMethod ({ cls := "Badgewood", name := "teach", desc := "(II)I" } : Jvm.MethodName)) ∈ BW := bw_of 624 (by decide +kernel) rfl
theorem bw_572 : (Jvm.Cond.selects "Badgewood" ({ cls := "Badgewood", name := "teach", desc := "(II)I" } : Jvm.MethodName) ({ cls := "Badgewood", name := "teach", desc := "(II)I" } : Jvm.MethodName)) ∈ BW := bw_of 625 (by decide +kernel) rfl
theorem bw_573 : (Jvm.Cond.code ({ cls := "Badgewood", name := "teach", desc := "(II)I" } : Jvm.MethodName) prog_1_method_13_code (5 : Nat) (Option.some Jvm.ClassFile.FieldType.int)) ∈ BW := bw_of 626 (by decide +kernel) rfl
theorem bw_574 : (Jvm.Cond.constant "Badgewood" (167 : Nat) (65535 : Int32)) ∈ BW := bw_of 627 (by decide +kernel) rfl
theorem bw_575 : (Jvm.Cond.methodLink "BadgewoodLaw" (155 : Nat) ({ cls := "BadgewoodLaw", name := "edition", desc := "(LBadgewood;IIIIIII[J)I" } : Jvm.MethodName)) ∈ BW := bw_of 628 (by decide +kernel) rfl
theorem bw_576 : (Jvm.Cond.static ({ cls := "BadgewoodLaw", name := "edition", desc := "(LBadgewood;IIIIIII[J)I" } : Jvm.MethodName)) ∈ BW := bw_of 629 (by decide +kernel) rfl
theorem bw_577 : (Jvm.Cond.codeWith ({ cls := "BadgewoodLaw", name := "edition", desc := "(LBadgewood;IIIIIII[J)I" } : Jvm.MethodName) method_14_code (10 : Nat) (Option.some Jvm.ClassFile.FieldType.int) [((0 : Nat), (20 : Nat), (23 : Nat), (25 : Nat)), ((0 : Nat), (20 : Nat), (27 : Nat), (13 : Nat)), ((0 : Nat), (20 : Nat), (31 : Nat), (15 : Nat))]) ∈ BW := bw_of 630 (by decide +kernel) rfl
theorem bw_578 : (Jvm.Cond.methodLink "BadgewoodLaw" (53 : Nat) ({ cls := "Badgewood", name := "edition", desc := "(IIIIIII)I" } : Jvm.MethodName)) ∈ BW := bw_of 631 (by decide +kernel) rfl
theorem bw_579 : (Jvm.Cond.instanceMethod ({ cls := "Badgewood", name := "edition", desc := "(IIIIIII)I" } : Jvm.MethodName)) ∈ BW := bw_of 632 (by decide +kernel) rfl
theorem bw_580 : (Jvm.Cond.selects "Badgewood" ({ cls := "Badgewood", name := "edition", desc := "(IIIIIII)I" } : Jvm.MethodName) ({ cls := "Badgewood", name := "edition", desc := "(IIIIIII)I" } : Jvm.MethodName)) ∈ BW := bw_of 633 (by decide +kernel) rfl
theorem bw_581 : (Jvm.Cond.code ({ cls := "Badgewood", name := "edition", desc := "(IIIIIII)I" } : Jvm.MethodName) prog_1_method_14_code (9 : Nat) (Option.some Jvm.ClassFile.FieldType.int)) ∈ BW := bw_of 634 (by decide +kernel) rfl
theorem bw_582 : (Jvm.Cond.methodLink "Badgewood" (171 : Nat) ({ cls := "Badgewood", name := "badgeAt", desc := "(I)LBadgewood$Badge;" } : Jvm.MethodName)) ∈ BW := bw_of 635 (by decide +kernel) rfl
theorem bw_584 : (Jvm.Cond.instanceMethod ({ cls := "Badgewood", name := "badgeAt", desc := "(I)LBadgewood$Badge;" } : Jvm.MethodName)) ∈ BW := bw_of 637 (by decide +kernel) rfl
theorem bw_585 : (Jvm.Cond.code ({ cls := "Badgewood", name := "badgeAt", desc := "(I)LBadgewood$Badge;" } : Jvm.MethodName) prog_1_method_37_code (2 : Nat) (Option.some (Jvm.ClassFile.FieldType.object "Badgewood$Badge"))) ∈ BW := bw_of 638 (by decide +kernel) rfl
theorem bw_587 : (Jvm.Cond.classLink "Badgewood" (183 : Nat) "Badgewood$Edition") ∈ BW := bw_of 640 (by decide +kernel) rfl
theorem bw_588 : (Jvm.Cond.instantiable "Badgewood$Edition" (6 : Nat)) ∈ BW := bw_of 641 (by decide +kernel) rfl
theorem bw_589 : (Jvm.Cond.methodLink "Badgewood" (185 : Nat) ({ cls := "Badgewood$Edition", name := "<init>", desc := "(IIIIII)V" } : Jvm.MethodName)) ∈ BW := bw_of 642 (by decide +kernel) rfl
theorem bw_590 : (Jvm.Cond.instanceMethod ({ cls := "Badgewood$Edition", name := "<init>", desc := "(IIIIII)V" } : Jvm.MethodName)) ∈ BW := bw_of 643 (by decide +kernel) rfl
theorem bw_591 : (Jvm.Cond.code ({ cls := "Badgewood$Edition", name := "<init>", desc := "(IIIIII)V" } : Jvm.MethodName) prog_5_method_1_code (7 : Nat) (Option.none : Option Jvm.ClassFile.FieldType)) ∈ BW := bw_of 644 (by decide +kernel) rfl
theorem bw_592 : (Jvm.Cond.methodLink "Badgewood$Edition" (1 : Nat) ({ cls := "java/lang/Object", name := "<init>", desc := "()V" } : Jvm.MethodName)) ∈ BW := bw_of 645 (by decide +kernel) rfl
theorem bw_593 : (Jvm.Cond.fieldLink "Badgewood$Edition" (7 : Nat) "Badgewood$Edition" "must" "I") ∈ BW := bw_of 646 (by decide +kernel) rfl
theorem bw_594 : (Jvm.Cond.fieldLink "Badgewood$Child" (92 : Nat) "Badgewood$Edition" "must" "I") ∈ BW := bw_of 647 (by decide +kernel) rfl
theorem bw_595 : (Jvm.Cond.fieldLink "Badgewood" (295 : Nat) "Badgewood$Edition" "must" "I") ∈ BW := bw_of 648 (by decide +kernel) rfl
theorem bw_596 : (Jvm.Cond.fieldLink "Badgewood$Edition" (13 : Nat) "Badgewood$Edition" "choice" "I") ∈ BW := bw_of 649 (by decide +kernel) rfl
theorem bw_597 : (Jvm.Cond.fieldLink "Badgewood$Child" (98 : Nat) "Badgewood$Edition" "choice" "I") ∈ BW := bw_of 650 (by decide +kernel) rfl
theorem bw_598 : (Jvm.Cond.fieldLink "Badgewood$Edition" (16 : Nat) "Badgewood$Edition" "many" "I") ∈ BW := bw_of 651 (by decide +kernel) rfl
theorem bw_599 : (Jvm.Cond.fieldLink "Badgewood$Child" (95 : Nat) "Badgewood$Edition" "many" "I") ∈ BW := bw_of 652 (by decide +kernel) rfl
theorem bw_600 : (Jvm.Cond.fieldLink "Badgewood$Edition" (19 : Nat) "Badgewood$Edition" "before" "I") ∈ BW := bw_of 653 (by decide +kernel) rfl
theorem bw_601 : (Jvm.Cond.fieldLink "Badgewood$Child" (84 : Nat) "Badgewood$Edition" "before" "I") ∈ BW := bw_of 654 (by decide +kernel) rfl
theorem bw_602 : (Jvm.Cond.fieldLink "Badgewood$Edition" (22 : Nat) "Badgewood$Edition" "gap" "I") ∈ BW := bw_of 655 (by decide +kernel) rfl
theorem bw_603 : (Jvm.Cond.fieldLink "Badgewood$Child" (89 : Nat) "Badgewood$Edition" "gap" "I") ∈ BW := bw_of 656 (by decide +kernel) rfl
theorem bw_604 : (Jvm.Cond.fieldLink "Badgewood$Edition" (25 : Nat) "Badgewood$Edition" "lasts" "I") ∈ BW := bw_of 657 (by decide +kernel) rfl
theorem bw_605 : (Jvm.Cond.fieldLink "Badgewood$Course" (23 : Nat) "Badgewood$Edition" "lasts" "I") ∈ BW := bw_of 658 (by decide +kernel) rfl
theorem bw_619 : (Jvm.Cond.methodLink "BadgewoodLaw" (159 : Nat) ({ cls := "BadgewoodLaw", name := "begin", desc := "(LBadgewood;II[J)I" } : Jvm.MethodName)) ∈ BW := bw_of 672 (by decide +kernel) rfl
theorem bw_620 : (Jvm.Cond.static ({ cls := "BadgewoodLaw", name := "begin", desc := "(LBadgewood;II[J)I" } : Jvm.MethodName)) ∈ BW := bw_of 673 (by decide +kernel) rfl
theorem bw_621 : (Jvm.Cond.codeWith ({ cls := "BadgewoodLaw", name := "begin", desc := "(LBadgewood;II[J)I" } : Jvm.MethodName) method_15_code (5 : Nat) (Option.some Jvm.ClassFile.FieldType.int) [((0 : Nat), (10 : Nat), (13 : Nat), (25 : Nat)), ((0 : Nat), (10 : Nat), (17 : Nat), (15 : Nat))]) ∈ BW := bw_of 674 (by decide +kernel) rfl
theorem bw_622 : (Jvm.Cond.methodLink "BadgewoodLaw" (57 : Nat) ({ cls := "Badgewood", name := "begin", desc := "(II)I" } : Jvm.MethodName)) ∈ BW := bw_of 675 (by decide +kernel) rfl
theorem bw_623 : (Jvm.Cond.instanceMethod ({ cls := "Badgewood", name := "begin", desc := "(II)I" } : Jvm.MethodName)) ∈ BW := bw_of 676 (by decide +kernel) rfl
theorem bw_624 : (Jvm.Cond.selects "Badgewood" ({ cls := "Badgewood", name := "begin", desc := "(II)I" } : Jvm.MethodName) ({ cls := "Badgewood", name := "begin", desc := "(II)I" } : Jvm.MethodName)) ∈ BW := bw_of 677 (by decide +kernel) rfl
theorem bw_625 : (Jvm.Cond.code ({ cls := "Badgewood", name := "begin", desc := "(II)I" } : Jvm.MethodName) prog_1_method_15_code (6 : Nat) (Option.some Jvm.ClassFile.FieldType.int)) ∈ BW := bw_of 678 (by decide +kernel) rfl
theorem bw_627 : (Jvm.Cond.methodLink "Badgewood" (190 : Nat) ({ cls := "Badgewood$Child", name := "courseOf", desc := "(I)LBadgewood$Course;" } : Jvm.MethodName)) ∈ BW := bw_of 680 (by decide +kernel) rfl
theorem bw_628 : (Jvm.Cond.instanceMethod ({ cls := "Badgewood$Child", name := "courseOf", desc := "(I)LBadgewood$Course;" } : Jvm.MethodName)) ∈ BW := bw_of 681 (by decide +kernel) rfl
theorem bw_629 : (Jvm.Cond.selects "Badgewood$Child" ({ cls := "Badgewood$Child", name := "courseOf", desc := "(I)LBadgewood$Course;" } : Jvm.MethodName) ({ cls := "Badgewood$Child", name := "courseOf", desc := "(I)LBadgewood$Course;" } : Jvm.MethodName)) ∈ BW := bw_of 682 (by decide +kernel) rfl
theorem bw_630 : (Jvm.Cond.code ({ cls := "Badgewood$Child", name := "courseOf", desc := "(I)LBadgewood$Course;" } : Jvm.MethodName) prog_3_method_3_code (2 : Nat) (Option.some (Jvm.ClassFile.FieldType.object "Badgewood$Course"))) ∈ BW := bw_of 683 (by decide +kernel) rfl
theorem bw_632 : (Jvm.Cond.classLink "Badgewood" (196 : Nat) "Badgewood$Course") ∈ BW := bw_of 685 (by decide +kernel) rfl
theorem bw_633 : (Jvm.Cond.instantiable "Badgewood$Course" (3 : Nat)) ∈ BW := bw_of 686 (by decide +kernel) rfl
theorem bw_634 : (Jvm.Cond.methodLink "Badgewood" (198 : Nat) ({ cls := "Badgewood$Course", name := "<init>", desc := "(LBadgewood$Edition;I)V" } : Jvm.MethodName)) ∈ BW := bw_of 687 (by decide +kernel) rfl
theorem bw_635 : (Jvm.Cond.instanceMethod ({ cls := "Badgewood$Course", name := "<init>", desc := "(LBadgewood$Edition;I)V" } : Jvm.MethodName)) ∈ BW := bw_of 688 (by decide +kernel) rfl
theorem bw_636 : (Jvm.Cond.code ({ cls := "Badgewood$Course", name := "<init>", desc := "(LBadgewood$Edition;I)V" } : Jvm.MethodName) prog_4_method_1_code (3 : Nat) (Option.none : Option Jvm.ClassFile.FieldType)) ∈ BW := bw_of 689 (by decide +kernel) rfl
theorem bw_637 : (Jvm.Cond.methodLink "Badgewood$Course" (3 : Nat) ({ cls := "java/lang/Object", name := "<init>", desc := "()V" } : Jvm.MethodName)) ∈ BW := bw_of 690 (by decide +kernel) rfl
theorem bw_638 : (Jvm.Cond.constant "Badgewood$Course" (9 : Nat) (1000000 : Int32)) ∈ BW := bw_of 691 (by decide +kernel) rfl
theorem bw_639 : (Jvm.Cond.fieldLink "Badgewood$Course" (16 : Nat) "Badgewood$Course" "edition" "LBadgewood$Edition;") ∈ BW := bw_of 692 (by decide +kernel) rfl
theorem bw_640 : (Jvm.Cond.fieldLink "Badgewood$Child" (64 : Nat) "Badgewood$Course" "edition" "LBadgewood$Edition;") ∈ BW := bw_of 693 (by decide +kernel) rfl
theorem bw_641 : (Jvm.Cond.fieldLink "Badgewood" (291 : Nat) "Badgewood$Course" "edition" "LBadgewood$Edition;") ∈ BW := bw_of 694 (by decide +kernel) rfl
theorem bw_642 : (Jvm.Cond.fieldLink "Badgewood$Course" (20 : Nat) "Badgewood$Course" "begunOn" "I") ∈ BW := bw_of 695 (by decide +kernel) rfl
theorem bw_643 : (Jvm.Cond.fieldLink "Badgewood$Child" (72 : Nat) "Badgewood$Course" "begunOn" "I") ∈ BW := bw_of 696 (by decide +kernel) rfl
theorem bw_644 : (Jvm.Cond.fieldLink "Badgewood$Course" (10 : Nat) "Badgewood$Course" "earnedOn" "I") ∈ BW := bw_of 697 (by decide +kernel) rfl
theorem bw_645 : (Jvm.Cond.fieldLink "Badgewood$Child" (57 : Nat) "Badgewood$Course" "earnedOn" "I") ∈ BW := bw_of 698 (by decide +kernel) rfl
theorem bw_653 : (Jvm.Cond.methodLink "Badgewood" (201 : Nat) ({ cls := "Badgewood$Child", name := "take", desc := "(ILBadgewood$Course;)V" } : Jvm.MethodName)) ∈ BW := bw_of 706 (by decide +kernel) rfl
theorem bw_654 : (Jvm.Cond.instanceMethod ({ cls := "Badgewood$Child", name := "take", desc := "(ILBadgewood$Course;)V" } : Jvm.MethodName)) ∈ BW := bw_of 707 (by decide +kernel) rfl
theorem bw_655 : (Jvm.Cond.selects "Badgewood$Child" ({ cls := "Badgewood$Child", name := "take", desc := "(ILBadgewood$Course;)V" } : Jvm.MethodName) ({ cls := "Badgewood$Child", name := "take", desc := "(ILBadgewood$Course;)V" } : Jvm.MethodName)) ∈ BW := bw_of 708 (by decide +kernel) rfl
theorem bw_656 : (Jvm.Cond.code ({ cls := "Badgewood$Child", name := "take", desc := "(ILBadgewood$Course;)V" } : Jvm.MethodName) prog_3_method_4_code (3 : Nat) (Option.none : Option Jvm.ClassFile.FieldType)) ∈ BW := bw_of 709 (by decide +kernel) rfl
theorem bw_657 : (Jvm.Cond.methodLink "Badgewood$Child" (43 : Nat) ({ cls := "Badgewood$Child", name := "reckonBadges", desc := "()V" } : Jvm.MethodName)) ∈ BW := bw_of 710 (by decide +kernel) rfl
theorem bw_659 : (Jvm.Cond.instanceMethod ({ cls := "Badgewood$Child", name := "reckonBadges", desc := "()V" } : Jvm.MethodName)) ∈ BW := bw_of 712 (by decide +kernel) rfl
theorem bw_660 : (Jvm.Cond.code ({ cls := "Badgewood$Child", name := "reckonBadges", desc := "()V" } : Jvm.MethodName) prog_3_method_8_code (4 : Nat) (Option.none : Option Jvm.ClassFile.FieldType)) ∈ BW := bw_of 713 (by decide +kernel) rfl
theorem bw_661 : (Jvm.Cond.methodLink "Badgewood$Child" (68 : Nat) ({ cls := "Badgewood$Child", name := "dayAfterBefore", desc := "(LBadgewood$Edition;)I" } : Jvm.MethodName)) ∈ BW := bw_of 714 (by decide +kernel) rfl
theorem bw_663 : (Jvm.Cond.instanceMethod ({ cls := "Badgewood$Child", name := "dayAfterBefore", desc := "(LBadgewood$Edition;)I" } : Jvm.MethodName)) ∈ BW := bw_of 716 (by decide +kernel) rfl
theorem bw_664 : (Jvm.Cond.code ({ cls := "Badgewood$Child", name := "dayAfterBefore", desc := "(LBadgewood$Edition;)I" } : Jvm.MethodName) prog_3_method_9_code (3 : Nat) (Option.some Jvm.ClassFile.FieldType.int)) ∈ BW := bw_of 717 (by decide +kernel) rfl
theorem bw_665 : (Jvm.Cond.methodLink "Badgewood$Child" (60 : Nat) ({ cls := "Badgewood$Child", name := "dayEarned", desc := "(I)I" } : Jvm.MethodName)) ∈ BW := bw_of 718 (by decide +kernel) rfl
theorem bw_666 : (Jvm.Cond.instanceMethod ({ cls := "Badgewood$Child", name := "dayEarned", desc := "(I)I" } : Jvm.MethodName)) ∈ BW := bw_of 719 (by decide +kernel) rfl
theorem bw_667 : (Jvm.Cond.selects "Badgewood$Child" ({ cls := "Badgewood$Child", name := "dayEarned", desc := "(I)I" } : Jvm.MethodName) ({ cls := "Badgewood$Child", name := "dayEarned", desc := "(I)I" } : Jvm.MethodName)) ∈ BW := bw_of 720 (by decide +kernel) rfl
theorem bw_668 : (Jvm.Cond.code ({ cls := "Badgewood$Child", name := "dayEarned", desc := "(I)I" } : Jvm.MethodName) prog_3_method_6_code (3 : Nat) (Option.some Jvm.ClassFile.FieldType.int)) ∈ BW := bw_of 721 (by decide +kernel) rfl
theorem bw_669 : (Jvm.Cond.methodLink "Badgewood$Child" (52 : Nat) ({ cls := "Badgewood$Child", name := "courseOf", desc := "(I)LBadgewood$Course;" } : Jvm.MethodName)) ∈ BW := bw_of 722 (by decide +kernel) rfl
theorem bw_670 : (Jvm.Cond.constant "Badgewood$Child" (56 : Nat) (1000000 : Int32)) ∈ BW := bw_of 723 (by decide +kernel) rfl
theorem bw_671 : (Jvm.Cond.methodLink "Badgewood$Child" (75 : Nat) ({ cls := "java/lang/Math", name := "max", desc := "(II)I" } : Jvm.MethodName)) ∈ BW := bw_of 724 (by decide +kernel) rfl
theorem bw_672 : (Jvm.Cond.methodLink "Badgewood$Child" (81 : Nat) ({ cls := "Badgewood$Child", name := "dayProven", desc := "(LBadgewood$Edition;)I" } : Jvm.MethodName)) ∈ BW := bw_of 725 (by decide +kernel) rfl
theorem bw_674 : (Jvm.Cond.instanceMethod ({ cls := "Badgewood$Child", name := "dayProven", desc := "(LBadgewood$Edition;)I" } : Jvm.MethodName)) ∈ BW := bw_of 727 (by decide +kernel) rfl
theorem bw_675 : (Jvm.Cond.code ({ cls := "Badgewood$Child", name := "dayProven", desc := "(LBadgewood$Edition;)I" } : Jvm.MethodName) prog_3_method_10_code (7 : Nat) (Option.some Jvm.ClassFile.FieldType.int)) ∈ BW := bw_of 728 (by decide +kernel) rfl
theorem bw_676 : (Jvm.Cond.methodLink "BadgewoodLaw" (162 : Nat) ({ cls := "BadgewoodLaw", name := "prove", desc := "(LBadgewood;III[J)I" } : Jvm.MethodName)) ∈ BW := bw_of 729 (by decide +kernel) rfl
theorem bw_677 : (Jvm.Cond.static ({ cls := "BadgewoodLaw", name := "prove", desc := "(LBadgewood;III[J)I" } : Jvm.MethodName)) ∈ BW := bw_of 730 (by decide +kernel) rfl
theorem bw_678 : (Jvm.Cond.codeWith ({ cls := "BadgewoodLaw", name := "prove", desc := "(LBadgewood;III[J)I" } : Jvm.MethodName) method_16_code (6 : Nat) (Option.some Jvm.ClassFile.FieldType.int) [((0 : Nat), (12 : Nat), (15 : Nat), (25 : Nat)), ((0 : Nat), (12 : Nat), (19 : Nat), (15 : Nat))]) ∈ BW := bw_of 731 (by decide +kernel) rfl
theorem bw_679 : (Jvm.Cond.methodLink "BadgewoodLaw" (60 : Nat) ({ cls := "Badgewood", name := "prove", desc := "(III)I" } : Jvm.MethodName)) ∈ BW := bw_of 732 (by decide +kernel) rfl
theorem bw_680 : (Jvm.Cond.instanceMethod ({ cls := "Badgewood", name := "prove", desc := "(III)I" } : Jvm.MethodName)) ∈ BW := bw_of 733 (by decide +kernel) rfl
theorem bw_681 : (Jvm.Cond.selects "Badgewood" ({ cls := "Badgewood", name := "prove", desc := "(III)I" } : Jvm.MethodName) ({ cls := "Badgewood", name := "prove", desc := "(III)I" } : Jvm.MethodName)) ∈ BW := bw_of 734 (by decide +kernel) rfl
theorem bw_682 : (Jvm.Cond.code ({ cls := "Badgewood", name := "prove", desc := "(III)I" } : Jvm.MethodName) prog_1_method_16_code (6 : Nat) (Option.some Jvm.ClassFile.FieldType.int)) ∈ BW := bw_of 735 (by decide +kernel) rfl
theorem bw_683 : (Jvm.Cond.methodLink "Badgewood" (205 : Nat) ({ cls := "Badgewood$Leader", name := "isVettedSomewhere", desc := "(I)Z" } : Jvm.MethodName)) ∈ BW := bw_of 736 (by decide +kernel) rfl
theorem bw_684 : (Jvm.Cond.instanceMethod ({ cls := "Badgewood$Leader", name := "isVettedSomewhere", desc := "(I)Z" } : Jvm.MethodName)) ∈ BW := bw_of 737 (by decide +kernel) rfl
theorem bw_685 : (Jvm.Cond.selects "Badgewood$Leader" ({ cls := "Badgewood$Leader", name := "isVettedSomewhere", desc := "(I)Z" } : Jvm.MethodName) ({ cls := "Badgewood$Leader", name := "isVettedSomewhere", desc := "(I)Z" } : Jvm.MethodName)) ∈ BW := bw_of 738 (by decide +kernel) rfl
theorem bw_686 : (Jvm.Cond.code ({ cls := "Badgewood$Leader", name := "isVettedSomewhere", desc := "(I)Z" } : Jvm.MethodName) prog_7_method_4_code (3 : Nat) (Option.some Jvm.ClassFile.FieldType.boolean)) ∈ BW := bw_of 739 (by decide +kernel) rfl
theorem bw_687 : (Jvm.Cond.methodLink "Badgewood$Leader" (21 : Nat) ({ cls := "Badgewood$Leader", name := "isVetted", desc := "(II)Z" } : Jvm.MethodName)) ∈ BW := bw_of 740 (by decide +kernel) rfl
theorem bw_688 : (Jvm.Cond.instanceMethod ({ cls := "Badgewood$Leader", name := "isVetted", desc := "(II)Z" } : Jvm.MethodName)) ∈ BW := bw_of 741 (by decide +kernel) rfl
theorem bw_689 : (Jvm.Cond.selects "Badgewood$Leader" ({ cls := "Badgewood$Leader", name := "isVetted", desc := "(II)Z" } : Jvm.MethodName) ({ cls := "Badgewood$Leader", name := "isVetted", desc := "(II)Z" } : Jvm.MethodName)) ∈ BW := bw_of 742 (by decide +kernel) rfl
theorem bw_690 : (Jvm.Cond.code ({ cls := "Badgewood$Leader", name := "isVetted", desc := "(II)Z" } : Jvm.MethodName) prog_7_method_3_code (3 : Nat) (Option.some Jvm.ClassFile.FieldType.boolean)) ∈ BW := bw_of 743 (by decide +kernel) rfl
theorem bw_694 : (Jvm.Cond.methodLink "Badgewood" (217 : Nat) ({ cls := "Badgewood$Child", name := "addProof", desc := "(II)V" } : Jvm.MethodName)) ∈ BW := bw_of 747 (by decide +kernel) rfl
theorem bw_695 : (Jvm.Cond.instanceMethod ({ cls := "Badgewood$Child", name := "addProof", desc := "(II)V" } : Jvm.MethodName)) ∈ BW := bw_of 748 (by decide +kernel) rfl
theorem bw_696 : (Jvm.Cond.selects "Badgewood$Child" ({ cls := "Badgewood$Child", name := "addProof", desc := "(II)V" } : Jvm.MethodName) ({ cls := "Badgewood$Child", name := "addProof", desc := "(II)V" } : Jvm.MethodName)) ∈ BW := bw_of 749 (by decide +kernel) rfl
theorem bw_697 : (Jvm.Cond.code ({ cls := "Badgewood$Child", name := "addProof", desc := "(II)V" } : Jvm.MethodName) prog_3_method_5_code (3 : Nat) (Option.none : Option Jvm.ClassFile.FieldType)) ∈ BW := bw_of 750 (by decide +kernel) rfl
theorem bw_698 : (Jvm.Cond.methodLink "Badgewood" (220 : Nat) ({ cls := "Badgewood$Child", name := "badgesBy", desc := "(I)I" } : Jvm.MethodName)) ∈ BW := bw_of 751 (by decide +kernel) rfl
theorem bw_699 : (Jvm.Cond.instanceMethod ({ cls := "Badgewood$Child", name := "badgesBy", desc := "(I)I" } : Jvm.MethodName)) ∈ BW := bw_of 752 (by decide +kernel) rfl
theorem bw_700 : (Jvm.Cond.selects "Badgewood$Child" ({ cls := "Badgewood$Child", name := "badgesBy", desc := "(I)I" } : Jvm.MethodName) ({ cls := "Badgewood$Child", name := "badgesBy", desc := "(I)I" } : Jvm.MethodName)) ∈ BW := bw_of 753 (by decide +kernel) rfl
theorem bw_701 : (Jvm.Cond.code ({ cls := "Badgewood$Child", name := "badgesBy", desc := "(I)I" } : Jvm.MethodName) prog_3_method_7_code (4 : Nat) (Option.some Jvm.ClassFile.FieldType.int)) ∈ BW := bw_of 754 (by decide +kernel) rfl
theorem bw_702 : (Jvm.Cond.methodLink "BadgewoodLaw" (165 : Nat) ({ cls := "BadgewoodLaw", name := "event", desc := "(LBadgewood;IIIIII[J)I" } : Jvm.MethodName)) ∈ BW := bw_of 755 (by decide +kernel) rfl
theorem bw_703 : (Jvm.Cond.static ({ cls := "BadgewoodLaw", name := "event", desc := "(LBadgewood;IIIIII[J)I" } : Jvm.MethodName)) ∈ BW := bw_of 756 (by decide +kernel) rfl
theorem bw_704 : (Jvm.Cond.codeWith ({ cls := "BadgewoodLaw", name := "event", desc := "(LBadgewood;IIIIII[J)I" } : Jvm.MethodName) method_17_code (9 : Nat) (Option.some Jvm.ClassFile.FieldType.int) [((0 : Nat), (18 : Nat), (21 : Nat), (25 : Nat)), ((0 : Nat), (18 : Nat), (25 : Nat), (13 : Nat)), ((0 : Nat), (18 : Nat), (29 : Nat), (15 : Nat))]) ∈ BW := bw_of 757 (by decide +kernel) rfl
theorem bw_705 : (Jvm.Cond.methodLink "BadgewoodLaw" (63 : Nat) ({ cls := "Badgewood", name := "event", desc := "(IIIIII)I" } : Jvm.MethodName)) ∈ BW := bw_of 758 (by decide +kernel) rfl
theorem bw_706 : (Jvm.Cond.instanceMethod ({ cls := "Badgewood", name := "event", desc := "(IIIIII)I" } : Jvm.MethodName)) ∈ BW := bw_of 759 (by decide +kernel) rfl
theorem bw_707 : (Jvm.Cond.selects "Badgewood" ({ cls := "Badgewood", name := "event", desc := "(IIIIII)I" } : Jvm.MethodName) ({ cls := "Badgewood", name := "event", desc := "(IIIIII)I" } : Jvm.MethodName)) ∈ BW := bw_of 760 (by decide +kernel) rfl
theorem bw_708 : (Jvm.Cond.code ({ cls := "Badgewood", name := "event", desc := "(IIIIII)I" } : Jvm.MethodName) prog_1_method_17_code (8 : Nat) (Option.some Jvm.ClassFile.FieldType.int)) ∈ BW := bw_of 761 (by decide +kernel) rfl
theorem bw_709 : (Jvm.Cond.classLink "Badgewood" (223 : Nat) "Badgewood$Event") ∈ BW := bw_of 762 (by decide +kernel) rfl
theorem bw_710 : (Jvm.Cond.instantiable "Badgewood$Event" (7 : Nat)) ∈ BW := bw_of 763 (by decide +kernel) rfl
theorem bw_711 : (Jvm.Cond.methodLink "Badgewood" (225 : Nat) ({ cls := "Badgewood$Event", name := "<init>", desc := "(IIIIII)V" } : Jvm.MethodName)) ∈ BW := bw_of 764 (by decide +kernel) rfl
theorem bw_712 : (Jvm.Cond.instanceMethod ({ cls := "Badgewood$Event", name := "<init>", desc := "(IIIIII)V" } : Jvm.MethodName)) ∈ BW := bw_of 765 (by decide +kernel) rfl
theorem bw_713 : (Jvm.Cond.code ({ cls := "Badgewood$Event", name := "<init>", desc := "(IIIIII)V" } : Jvm.MethodName) prog_6_method_1_code (7 : Nat) (Option.none : Option Jvm.ClassFile.FieldType)) ∈ BW := bw_of 766 (by decide +kernel) rfl
theorem bw_714 : (Jvm.Cond.methodLink "Badgewood$Event" (1 : Nat) ({ cls := "java/lang/Object", name := "<init>", desc := "()V" } : Jvm.MethodName)) ∈ BW := bw_of 767 (by decide +kernel) rfl
theorem bw_715 : (Jvm.Cond.fieldLink "Badgewood$Event" (7 : Nat) "Badgewood$Event" "troop" "I") ∈ BW := bw_of 768 (by decide +kernel) rfl
theorem bw_716 : (Jvm.Cond.fieldLink "Badgewood" (350 : Nat) "Badgewood$Event" "troop" "I") ∈ BW := bw_of 769 (by decide +kernel) rfl
theorem bw_717 : (Jvm.Cond.fieldLink "Badgewood$Event" (13 : Nat) "Badgewood$Event" "land" "I") ∈ BW := bw_of 770 (by decide +kernel) rfl
theorem bw_718 : (Jvm.Cond.fieldLink "Badgewood" (335 : Nat) "Badgewood$Event" "land" "I") ∈ BW := bw_of 771 (by decide +kernel) rfl
theorem bw_719 : (Jvm.Cond.fieldLink "Badgewood$Event" (16 : Nat) "Badgewood$Event" "kind" "I") ∈ BW := bw_of 772 (by decide +kernel) rfl
theorem bw_720 : (Jvm.Cond.fieldLink "Badgewood" (344 : Nat) "Badgewood$Event" "kind" "I") ∈ BW := bw_of 773 (by decide +kernel) rfl
theorem bw_721 : (Jvm.Cond.fieldLink "Badgewood$Event" (19 : Nat) "Badgewood$Event" "day" "I") ∈ BW := bw_of 774 (by decide +kernel) rfl
theorem bw_722 : (Jvm.Cond.fieldLink "Badgewood" (338 : Nat) "Badgewood$Event" "day" "I") ∈ BW := bw_of 775 (by decide +kernel) rfl
theorem bw_723 : (Jvm.Cond.fieldLink "Badgewood$Event" (22 : Nat) "Badgewood$Event" "hour" "I") ∈ BW := bw_of 776 (by decide +kernel) rfl
theorem bw_724 : (Jvm.Cond.fieldLink "Badgewood$Event" (25 : Nat) "Badgewood$Event" "end" "I") ∈ BW := bw_of 777 (by decide +kernel) rfl
theorem bw_725 : (Jvm.Cond.fieldLink "Badgewood" (236 : Nat) "Badgewood$Event" "leaders" "I") ∈ BW := bw_of 778 (by decide +kernel) rfl
theorem bw_741 : (Jvm.Cond.methodLink "BadgewoodLaw" (169 : Nat) ({ cls := "BadgewoodLaw", name := "staff", desc := "(LBadgewood;IIZ[J)I" } : Jvm.MethodName)) ∈ BW := bw_of 794 (by decide +kernel) rfl
theorem bw_742 : (Jvm.Cond.static ({ cls := "BadgewoodLaw", name := "staff", desc := "(LBadgewood;IIZ[J)I" } : Jvm.MethodName)) ∈ BW := bw_of 795 (by decide +kernel) rfl
theorem bw_743 : (Jvm.Cond.codeWith ({ cls := "BadgewoodLaw", name := "staff", desc := "(LBadgewood;IIZ[J)I" } : Jvm.MethodName) method_18_code (6 : Nat) (Option.some Jvm.ClassFile.FieldType.int) [((0 : Nat), (12 : Nat), (15 : Nat), (25 : Nat)), ((0 : Nat), (12 : Nat), (19 : Nat), (15 : Nat))]) ∈ BW := bw_of 796 (by decide +kernel) rfl
theorem bw_744 : (Jvm.Cond.methodLink "BadgewoodLaw" (67 : Nat) ({ cls := "Badgewood", name := "staff", desc := "(IIZ)I" } : Jvm.MethodName)) ∈ BW := bw_of 797 (by decide +kernel) rfl
theorem bw_745 : (Jvm.Cond.instanceMethod ({ cls := "Badgewood", name := "staff", desc := "(IIZ)I" } : Jvm.MethodName)) ∈ BW := bw_of 798 (by decide +kernel) rfl
theorem bw_746 : (Jvm.Cond.selects "Badgewood" ({ cls := "Badgewood", name := "staff", desc := "(IIZ)I" } : Jvm.MethodName) ({ cls := "Badgewood", name := "staff", desc := "(IIZ)I" } : Jvm.MethodName)) ∈ BW := bw_of 799 (by decide +kernel) rfl
theorem bw_747 : (Jvm.Cond.code ({ cls := "Badgewood", name := "staff", desc := "(IIZ)I" } : Jvm.MethodName) prog_1_method_18_code (6 : Nat) (Option.some Jvm.ClassFile.FieldType.int)) ∈ BW := bw_of 800 (by decide +kernel) rfl
theorem bw_748 : (Jvm.Cond.methodLink "Badgewood" (226 : Nat) ({ cls := "Badgewood", name := "eventAt", desc := "(I)LBadgewood$Event;" } : Jvm.MethodName)) ∈ BW := bw_of 801 (by decide +kernel) rfl
theorem bw_750 : (Jvm.Cond.instanceMethod ({ cls := "Badgewood", name := "eventAt", desc := "(I)LBadgewood$Event;" } : Jvm.MethodName)) ∈ BW := bw_of 803 (by decide +kernel) rfl
theorem bw_751 : (Jvm.Cond.code ({ cls := "Badgewood", name := "eventAt", desc := "(I)LBadgewood$Event;" } : Jvm.MethodName) prog_1_method_36_code (2 : Nat) (Option.some (Jvm.ClassFile.FieldType.object "Badgewood$Event"))) ∈ BW := bw_of 804 (by decide +kernel) rfl
theorem bw_752 : (Jvm.Cond.methodLink "Badgewood" (230 : Nat) ({ cls := "Badgewood", name := "isElsewhere", desc := "(LBadgewood$Event;I)Z" } : Jvm.MethodName)) ∈ BW := bw_of 805 (by decide +kernel) rfl
theorem bw_754 : (Jvm.Cond.instanceMethod ({ cls := "Badgewood", name := "isElsewhere", desc := "(LBadgewood$Event;I)Z" } : Jvm.MethodName)) ∈ BW := bw_of 807 (by decide +kernel) rfl
theorem bw_755 : (Jvm.Cond.code ({ cls := "Badgewood", name := "isElsewhere", desc := "(LBadgewood$Event;I)Z" } : Jvm.MethodName) prog_1_method_54_code (5 : Nat) (Option.some Jvm.ClassFile.FieldType.boolean)) ∈ BW := bw_of 808 (by decide +kernel) rfl
theorem bw_756 : (Jvm.Cond.methodLink "Badgewood" (331 : Nat) ({ cls := "Badgewood$Event", name := "meets", desc := "(LBadgewood$Event;)Z" } : Jvm.MethodName)) ∈ BW := bw_of 809 (by decide +kernel) rfl
theorem bw_757 : (Jvm.Cond.instanceMethod ({ cls := "Badgewood$Event", name := "meets", desc := "(LBadgewood$Event;)Z" } : Jvm.MethodName)) ∈ BW := bw_of 810 (by decide +kernel) rfl
theorem bw_758 : (Jvm.Cond.selects "Badgewood$Event" ({ cls := "Badgewood$Event", name := "meets", desc := "(LBadgewood$Event;)Z" } : Jvm.MethodName) ({ cls := "Badgewood$Event", name := "meets", desc := "(LBadgewood$Event;)Z" } : Jvm.MethodName)) ∈ BW := bw_of 811 (by decide +kernel) rfl
theorem bw_759 : (Jvm.Cond.code ({ cls := "Badgewood$Event", name := "meets", desc := "(LBadgewood$Event;)Z" } : Jvm.MethodName) prog_6_method_3_code (2 : Nat) (Option.some Jvm.ClassFile.FieldType.boolean)) ∈ BW := bw_of 812 (by decide +kernel) rfl
theorem bw_761 : (Jvm.Cond.methodLink "BadgewoodLaw" (173 : Nat) ({ cls := "BadgewoodLaw", name := "why", desc := "(LBadgewood;I[J)I" } : Jvm.MethodName)) ∈ BW := bw_of 814 (by decide +kernel) rfl
theorem bw_762 : (Jvm.Cond.static ({ cls := "BadgewoodLaw", name := "why", desc := "(LBadgewood;I[J)I" } : Jvm.MethodName)) ∈ BW := bw_of 815 (by decide +kernel) rfl
theorem bw_763 : (Jvm.Cond.codeWith ({ cls := "BadgewoodLaw", name := "why", desc := "(LBadgewood;I[J)I" } : Jvm.MethodName) method_19_code (4 : Nat) (Option.some Jvm.ClassFile.FieldType.int) [((0 : Nat), (9 : Nat), (12 : Nat), (25 : Nat))]) ∈ BW := bw_of 816 (by decide +kernel) rfl
theorem bw_764 : (Jvm.Cond.methodLink "BadgewoodLaw" (71 : Nat) ({ cls := "Badgewood", name := "why", desc := "(I)I" } : Jvm.MethodName)) ∈ BW := bw_of 817 (by decide +kernel) rfl
theorem bw_765 : (Jvm.Cond.instanceMethod ({ cls := "Badgewood", name := "why", desc := "(I)I" } : Jvm.MethodName)) ∈ BW := bw_of 818 (by decide +kernel) rfl
theorem bw_766 : (Jvm.Cond.selects "Badgewood" ({ cls := "Badgewood", name := "why", desc := "(I)I" } : Jvm.MethodName) ({ cls := "Badgewood", name := "why", desc := "(I)I" } : Jvm.MethodName)) ∈ BW := bw_of 819 (by decide +kernel) rfl
theorem bw_767 : (Jvm.Cond.code ({ cls := "Badgewood", name := "why", desc := "(I)I" } : Jvm.MethodName) prog_1_method_19_code (3 : Nat) (Option.some Jvm.ClassFile.FieldType.int)) ∈ BW := bw_of 820 (by decide +kernel) rfl
theorem bw_768 : (Jvm.Cond.methodLink "Badgewood" (238 : Nat) ({ cls := "Badgewood", name := "needOf", desc := "(LBadgewood$Event;)LBadgewood$Need;" } : Jvm.MethodName)) ∈ BW := bw_of 821 (by decide +kernel) rfl
theorem bw_770 : (Jvm.Cond.instanceMethod ({ cls := "Badgewood", name := "needOf", desc := "(LBadgewood$Event;)LBadgewood$Need;" } : Jvm.MethodName)) ∈ BW := bw_of 823 (by decide +kernel) rfl
theorem bw_771 : (Jvm.Cond.code ({ cls := "Badgewood", name := "needOf", desc := "(LBadgewood$Event;)LBadgewood$Need;" } : Jvm.MethodName) prog_1_method_55_code (5 : Nat) (Option.some (Jvm.ClassFile.FieldType.object "Badgewood$Need"))) ∈ BW := bw_of 824 (by decide +kernel) rfl
theorem bw_772 : (Jvm.Cond.methodLink "Badgewood" (341 : Nat) ({ cls := "Badgewood$Leader", name := "isVetted", desc := "(II)Z" } : Jvm.MethodName)) ∈ BW := bw_of 825 (by decide +kernel) rfl
theorem bw_773 : (Jvm.Cond.methodLink "Badgewood" (347 : Nat) ({ cls := "Badgewood$Leader", name := "mayLead", desc := "(II)Z" } : Jvm.MethodName)) ∈ BW := bw_of 826 (by decide +kernel) rfl
theorem bw_774 : (Jvm.Cond.instanceMethod ({ cls := "Badgewood$Leader", name := "mayLead", desc := "(II)Z" } : Jvm.MethodName)) ∈ BW := bw_of 827 (by decide +kernel) rfl
theorem bw_775 : (Jvm.Cond.selects "Badgewood$Leader" ({ cls := "Badgewood$Leader", name := "mayLead", desc := "(II)Z" } : Jvm.MethodName) ({ cls := "Badgewood$Leader", name := "mayLead", desc := "(II)Z" } : Jvm.MethodName)) ∈ BW := bw_of 828 (by decide +kernel) rfl
theorem bw_776 : (Jvm.Cond.code ({ cls := "Badgewood$Leader", name := "mayLead", desc := "(II)Z" } : Jvm.MethodName) prog_7_method_7_code (3 : Nat) (Option.some Jvm.ClassFile.FieldType.boolean)) ∈ BW := bw_of 829 (by decide +kernel) rfl
theorem bw_777 : (Jvm.Cond.methodLink "Badgewood$Leader" (25 : Nat) ({ cls := "Badgewood$Leader", name := "permitOf", desc := "(I)I" } : Jvm.MethodName)) ∈ BW := bw_of 830 (by decide +kernel) rfl
theorem bw_778 : (Jvm.Cond.classLink "Badgewood" (243 : Nat) "Badgewood$Need") ∈ BW := bw_of 831 (by decide +kernel) rfl
theorem bw_779 : (Jvm.Cond.instantiable "Badgewood$Need" (5 : Nat)) ∈ BW := bw_of 832 (by decide +kernel) rfl
theorem bw_780 : (Jvm.Cond.methodLink "Badgewood" (351 : Nat) ({ cls := "Badgewood", name := "childrenPerLeader", desc := "(I)I" } : Jvm.MethodName)) ∈ BW := bw_of 833 (by decide +kernel) rfl
theorem bw_781 : (Jvm.Cond.static ({ cls := "Badgewood", name := "childrenPerLeader", desc := "(I)I" } : Jvm.MethodName)) ∈ BW := bw_of 834 (by decide +kernel) rfl
theorem bw_782 : (Jvm.Cond.code ({ cls := "Badgewood", name := "childrenPerLeader", desc := "(I)I" } : Jvm.MethodName) prog_1_method_53_code (1 : Nat) (Option.some Jvm.ClassFile.FieldType.int)) ∈ BW := bw_of 835 (by decide +kernel) rfl
theorem bw_783 : (Jvm.Cond.methodLink "Badgewood" (354 : Nat) ({ cls := "Badgewood$Need", name := "<init>", desc := "(IIII)V" } : Jvm.MethodName)) ∈ BW := bw_of 836 (by decide +kernel) rfl
theorem bw_784 : (Jvm.Cond.instanceMethod ({ cls := "Badgewood$Need", name := "<init>", desc := "(IIII)V" } : Jvm.MethodName)) ∈ BW := bw_of 837 (by decide +kernel) rfl
theorem bw_785 : (Jvm.Cond.code ({ cls := "Badgewood$Need", name := "<init>", desc := "(IIII)V" } : Jvm.MethodName) prog_8_method_1_code (5 : Nat) (Option.none : Option Jvm.ClassFile.FieldType)) ∈ BW := bw_of 838 (by decide +kernel) rfl
theorem bw_786 : (Jvm.Cond.methodLink "Badgewood$Need" (3 : Nat) ({ cls := "java/lang/Object", name := "<init>", desc := "()V" } : Jvm.MethodName)) ∈ BW := bw_of 839 (by decide +kernel) rfl
theorem bw_787 : (Jvm.Cond.methodLink "Badgewood$Need" (24 : Nat) ({ cls := "Badgewood$Need", name := "leastLeaders", desc := "(II)I" } : Jvm.MethodName)) ∈ BW := bw_of 840 (by decide +kernel) rfl
theorem bw_788 : (Jvm.Cond.static ({ cls := "Badgewood$Need", name := "leastLeaders", desc := "(II)I" } : Jvm.MethodName)) ∈ BW := bw_of 841 (by decide +kernel) rfl
theorem bw_789 : (Jvm.Cond.code ({ cls := "Badgewood$Need", name := "leastLeaders", desc := "(II)I" } : Jvm.MethodName) prog_8_method_2_code (3 : Nat) (Option.some Jvm.ClassFile.FieldType.int)) ∈ BW := bw_of 842 (by decide +kernel) rfl
theorem bw_790 : (Jvm.Cond.fieldLink "Badgewood$Need" (9 : Nat) "Badgewood$Need" "young" "I") ∈ BW := bw_of 843 (by decide +kernel) rfl
theorem bw_791 : (Jvm.Cond.fieldLink "Badgewood$Need" (15 : Nat) "Badgewood$Need" "perLeader" "I") ∈ BW := bw_of 844 (by decide +kernel) rfl
theorem bw_792 : (Jvm.Cond.fieldLink "Badgewood$Need" (18 : Nat) "Badgewood$Need" "vetted" "I") ∈ BW := bw_of 845 (by decide +kernel) rfl
theorem bw_793 : (Jvm.Cond.fieldLink "Badgewood" (358 : Nat) "Badgewood$Need" "vetted" "I") ∈ BW := bw_of 846 (by decide +kernel) rfl
theorem bw_794 : (Jvm.Cond.fieldLink "Badgewood$Need" (21 : Nat) "Badgewood$Need" "permitted" "I") ∈ BW := bw_of 847 (by decide +kernel) rfl
theorem bw_795 : (Jvm.Cond.fieldLink "Badgewood$Need" (28 : Nat) "Badgewood$Need" "least" "I") ∈ BW := bw_of 848 (by decide +kernel) rfl
theorem bw_796 : (Jvm.Cond.fieldLink "Badgewood" (361 : Nat) "Badgewood$Need" "least" "I") ∈ BW := bw_of 849 (by decide +kernel) rfl
theorem bw_808 : (Jvm.Cond.methodLink "Badgewood" (242 : Nat) ({ cls := "Badgewood$Need", name := "verdict", desc := "(I)I" } : Jvm.MethodName)) ∈ BW := bw_of 861 (by decide +kernel) rfl
theorem bw_809 : (Jvm.Cond.instanceMethod ({ cls := "Badgewood$Need", name := "verdict", desc := "(I)I" } : Jvm.MethodName)) ∈ BW := bw_of 862 (by decide +kernel) rfl
theorem bw_810 : (Jvm.Cond.selects "Badgewood$Need" ({ cls := "Badgewood$Need", name := "verdict", desc := "(I)I" } : Jvm.MethodName) ({ cls := "Badgewood$Need", name := "verdict", desc := "(I)I" } : Jvm.MethodName)) ∈ BW := bw_of 863 (by decide +kernel) rfl
theorem bw_811 : (Jvm.Cond.code ({ cls := "Badgewood$Need", name := "verdict", desc := "(I)I" } : Jvm.MethodName) prog_8_method_3_code (3 : Nat) (Option.some Jvm.ClassFile.FieldType.int)) ∈ BW := bw_of 864 (by decide +kernel) rfl
theorem bw_812 : (Jvm.Cond.methodLink "Badgewood$Need" (31 : Nat) ({ cls := "java/lang/Integer", name := "bitCount", desc := "(I)I" } : Jvm.MethodName)) ∈ BW := bw_of 865 (by decide +kernel) rfl
theorem bw_813 : (Jvm.Cond.methodLink "BadgewoodLaw" (176 : Nat) ({ cls := "BadgewoodLaw", name := "couldStaff", desc := "(LBadgewood;III[J)I" } : Jvm.MethodName)) ∈ BW := bw_of 866 (by decide +kernel) rfl
theorem bw_814 : (Jvm.Cond.static ({ cls := "BadgewoodLaw", name := "couldStaff", desc := "(LBadgewood;III[J)I" } : Jvm.MethodName)) ∈ BW := bw_of 867 (by decide +kernel) rfl
theorem bw_815 : (Jvm.Cond.codeWith ({ cls := "BadgewoodLaw", name := "couldStaff", desc := "(LBadgewood;III[J)I" } : Jvm.MethodName) method_20_code (6 : Nat) (Option.some Jvm.ClassFile.FieldType.int) [((0 : Nat), (19 : Nat), (22 : Nat), (13 : Nat)), ((0 : Nat), (19 : Nat), (26 : Nat), (15 : Nat))]) ∈ BW := bw_of 868 (by decide +kernel) rfl
theorem bw_816 : (Jvm.Cond.methodLink "BadgewoodLaw" (74 : Nat) ({ cls := "Badgewood", name := "couldStaff", desc := "(III)Z" } : Jvm.MethodName)) ∈ BW := bw_of 869 (by decide +kernel) rfl
theorem bw_817 : (Jvm.Cond.instanceMethod ({ cls := "Badgewood", name := "couldStaff", desc := "(III)Z" } : Jvm.MethodName)) ∈ BW := bw_of 870 (by decide +kernel) rfl
theorem bw_818 : (Jvm.Cond.selects "Badgewood" ({ cls := "Badgewood", name := "couldStaff", desc := "(III)Z" } : Jvm.MethodName) ({ cls := "Badgewood", name := "couldStaff", desc := "(III)Z" } : Jvm.MethodName)) ∈ BW := bw_of 871 (by decide +kernel) rfl
theorem bw_819 : (Jvm.Cond.code ({ cls := "Badgewood", name := "couldStaff", desc := "(III)Z" } : Jvm.MethodName) prog_1_method_20_code (4 : Nat) (Option.some Jvm.ClassFile.FieldType.boolean)) ∈ BW := bw_of 872 (by decide +kernel) rfl
theorem bw_820 : (Jvm.Cond.methodLink "Badgewood" (247 : Nat) ({ cls := "Badgewood", name := "eventsIn", desc := "(II)I" } : Jvm.MethodName)) ∈ BW := bw_of 873 (by decide +kernel) rfl
theorem bw_822 : (Jvm.Cond.instanceMethod ({ cls := "Badgewood", name := "eventsIn", desc := "(II)I" } : Jvm.MethodName)) ∈ BW := bw_of 875 (by decide +kernel) rfl
theorem bw_823 : (Jvm.Cond.code ({ cls := "Badgewood", name := "eventsIn", desc := "(II)I" } : Jvm.MethodName) prog_1_method_56_code (5 : Nat) (Option.some Jvm.ClassFile.FieldType.int)) ∈ BW := bw_of 876 (by decide +kernel) rfl
theorem bw_824 : (Jvm.Cond.methodLink "Badgewood" (355 : Nat) ({ cls := "Badgewood$Event", name := "goesOn", desc := "(II)Z" } : Jvm.MethodName)) ∈ BW := bw_of 877 (by decide +kernel) rfl
theorem bw_825 : (Jvm.Cond.instanceMethod ({ cls := "Badgewood$Event", name := "goesOn", desc := "(II)Z" } : Jvm.MethodName)) ∈ BW := bw_of 878 (by decide +kernel) rfl
theorem bw_826 : (Jvm.Cond.selects "Badgewood$Event" ({ cls := "Badgewood$Event", name := "goesOn", desc := "(II)Z" } : Jvm.MethodName) ({ cls := "Badgewood$Event", name := "goesOn", desc := "(II)Z" } : Jvm.MethodName)) ∈ BW := bw_of 879 (by decide +kernel) rfl
theorem bw_827 : (Jvm.Cond.code ({ cls := "Badgewood$Event", name := "goesOn", desc := "(II)Z" } : Jvm.MethodName) prog_6_method_2_code (3 : Nat) (Option.some Jvm.ClassFile.FieldType.boolean)) ∈ BW := bw_of 880 (by decide +kernel) rfl
theorem bw_829 : (Jvm.Cond.methodLink "Badgewood" (252 : Nat) ({ cls := "Badgewood", name := "needsIn", desc := "(II)Ljava/util/ArrayList;" } : Jvm.MethodName)) ∈ BW := bw_of 882 (by decide +kernel) rfl
theorem bw_831 : (Jvm.Cond.instanceMethod ({ cls := "Badgewood", name := "needsIn", desc := "(II)Ljava/util/ArrayList;" } : Jvm.MethodName)) ∈ BW := bw_of 884 (by decide +kernel) rfl
theorem bw_832 : (Jvm.Cond.code ({ cls := "Badgewood", name := "needsIn", desc := "(II)Ljava/util/ArrayList;" } : Jvm.MethodName) prog_1_method_57_code (5 : Nat) (Option.some (Jvm.ClassFile.FieldType.object "java/util/ArrayList"))) ∈ BW := bw_of 885 (by decide +kernel) rfl
theorem bw_833 : (Jvm.Cond.methodLink "Badgewood" (256 : Nat) ({ cls := "Badgewood", name := "canShare", desc := "(Ljava/util/ArrayList;II)Z" } : Jvm.MethodName)) ∈ BW := bw_of 886 (by decide +kernel) rfl
theorem bw_834 : (Jvm.Cond.static ({ cls := "Badgewood", name := "canShare", desc := "(Ljava/util/ArrayList;II)Z" } : Jvm.MethodName)) ∈ BW := bw_of 887 (by decide +kernel) rfl
theorem bw_835 : (Jvm.Cond.code ({ cls := "Badgewood", name := "canShare", desc := "(Ljava/util/ArrayList;II)Z" } : Jvm.MethodName) prog_1_method_58_code (8 : Nat) (Option.some Jvm.ClassFile.FieldType.boolean)) ∈ BW := bw_of 888 (by decide +kernel) rfl
theorem bw_836 : (Jvm.Cond.methodLink "BadgewoodLaw" (179 : Nat) ({ cls := "BadgewoodLaw", name := "boxes", desc := "(LBadgewood;II[J)I" } : Jvm.MethodName)) ∈ BW := bw_of 889 (by decide +kernel) rfl
theorem bw_837 : (Jvm.Cond.static ({ cls := "BadgewoodLaw", name := "boxes", desc := "(LBadgewood;II[J)I" } : Jvm.MethodName)) ∈ BW := bw_of 890 (by decide +kernel) rfl
theorem bw_838 : (Jvm.Cond.codeWith ({ cls := "BadgewoodLaw", name := "boxes", desc := "(LBadgewood;II[J)I" } : Jvm.MethodName) method_21_code (5 : Nat) (Option.some Jvm.ClassFile.FieldType.int) [((0 : Nat), (10 : Nat), (13 : Nat), (25 : Nat)), ((0 : Nat), (10 : Nat), (17 : Nat), (13 : Nat)), ((0 : Nat), (10 : Nat), (21 : Nat), (15 : Nat))]) ∈ BW := bw_of 891 (by decide +kernel) rfl
theorem bw_839 : (Jvm.Cond.methodLink "BadgewoodLaw" (78 : Nat) ({ cls := "Badgewood", name := "boxes", desc := "(II)I" } : Jvm.MethodName)) ∈ BW := bw_of 892 (by decide +kernel) rfl
theorem bw_840 : (Jvm.Cond.instanceMethod ({ cls := "Badgewood", name := "boxes", desc := "(II)I" } : Jvm.MethodName)) ∈ BW := bw_of 893 (by decide +kernel) rfl
theorem bw_841 : (Jvm.Cond.selects "Badgewood" ({ cls := "Badgewood", name := "boxes", desc := "(II)I" } : Jvm.MethodName) ({ cls := "Badgewood", name := "boxes", desc := "(II)I" } : Jvm.MethodName)) ∈ BW := bw_of 894 (by decide +kernel) rfl
theorem bw_842 : (Jvm.Cond.code ({ cls := "Badgewood", name := "boxes", desc := "(II)I" } : Jvm.MethodName) prog_1_method_21_code (4 : Nat) (Option.some Jvm.ClassFile.FieldType.int)) ∈ BW := bw_of 895 (by decide +kernel) rfl
theorem bw_845 : (Jvm.Cond.methodLink "BadgewoodLaw" (182 : Nat) ({ cls := "BadgewoodLaw", name := "pay", desc := "(LBadgewood;II[J)I" } : Jvm.MethodName)) ∈ BW := bw_of 898 (by decide +kernel) rfl
theorem bw_846 : (Jvm.Cond.static ({ cls := "BadgewoodLaw", name := "pay", desc := "(LBadgewood;II[J)I" } : Jvm.MethodName)) ∈ BW := bw_of 899 (by decide +kernel) rfl
theorem bw_847 : (Jvm.Cond.codeWith ({ cls := "BadgewoodLaw", name := "pay", desc := "(LBadgewood;II[J)I" } : Jvm.MethodName) method_22_code (5 : Nat) (Option.some Jvm.ClassFile.FieldType.int) [((0 : Nat), (10 : Nat), (13 : Nat), (25 : Nat)), ((0 : Nat), (10 : Nat), (17 : Nat), (13 : Nat)), ((0 : Nat), (10 : Nat), (21 : Nat), (15 : Nat))]) ∈ BW := bw_of 900 (by decide +kernel) rfl
theorem bw_848 : (Jvm.Cond.methodLink "BadgewoodLaw" (81 : Nat) ({ cls := "Badgewood", name := "pay", desc := "(II)I" } : Jvm.MethodName)) ∈ BW := bw_of 901 (by decide +kernel) rfl
theorem bw_849 : (Jvm.Cond.instanceMethod ({ cls := "Badgewood", name := "pay", desc := "(II)I" } : Jvm.MethodName)) ∈ BW := bw_of 902 (by decide +kernel) rfl
theorem bw_850 : (Jvm.Cond.selects "Badgewood" ({ cls := "Badgewood", name := "pay", desc := "(II)I" } : Jvm.MethodName) ({ cls := "Badgewood", name := "pay", desc := "(II)I" } : Jvm.MethodName)) ∈ BW := bw_of 903 (by decide +kernel) rfl
theorem bw_851 : (Jvm.Cond.code ({ cls := "Badgewood", name := "pay", desc := "(II)I" } : Jvm.MethodName) prog_1_method_22_code (4 : Nat) (Option.some Jvm.ClassFile.FieldType.int)) ∈ BW := bw_of 904 (by decide +kernel) rfl
theorem bw_853 : (Jvm.Cond.methodLink "BadgewoodLaw" (185 : Nat) ({ cls := "BadgewoodLaw", name := "owed", desc := "(LBadgewood;I[J)I" } : Jvm.MethodName)) ∈ BW := bw_of 906 (by decide +kernel) rfl
theorem bw_854 : (Jvm.Cond.static ({ cls := "BadgewoodLaw", name := "owed", desc := "(LBadgewood;I[J)I" } : Jvm.MethodName)) ∈ BW := bw_of 907 (by decide +kernel) rfl
theorem bw_855 : (Jvm.Cond.codeWith ({ cls := "BadgewoodLaw", name := "owed", desc := "(LBadgewood;I[J)I" } : Jvm.MethodName) method_23_code (4 : Nat) (Option.some Jvm.ClassFile.FieldType.int) [((0 : Nat), (9 : Nat), (12 : Nat), (25 : Nat))]) ∈ BW := bw_of 908 (by decide +kernel) rfl
theorem bw_856 : (Jvm.Cond.methodLink "BadgewoodLaw" (84 : Nat) ({ cls := "Badgewood", name := "owed", desc := "(I)I" } : Jvm.MethodName)) ∈ BW := bw_of 909 (by decide +kernel) rfl
theorem bw_857 : (Jvm.Cond.instanceMethod ({ cls := "Badgewood", name := "owed", desc := "(I)I" } : Jvm.MethodName)) ∈ BW := bw_of 910 (by decide +kernel) rfl
theorem bw_858 : (Jvm.Cond.selects "Badgewood" ({ cls := "Badgewood", name := "owed", desc := "(I)I" } : Jvm.MethodName) ({ cls := "Badgewood", name := "owed", desc := "(I)I" } : Jvm.MethodName)) ∈ BW := bw_of 911 (by decide +kernel) rfl
theorem bw_859 : (Jvm.Cond.code ({ cls := "Badgewood", name := "owed", desc := "(I)I" } : Jvm.MethodName) prog_1_method_23_code (5 : Nat) (Option.some Jvm.ClassFile.FieldType.int)) ∈ BW := bw_of 912 (by decide +kernel) rfl
theorem bw_860 : (Jvm.Cond.methodLink "BadgewoodLaw" (192 : Nat) ({ cls := "BadgewoodLaw", name := "ofChild", desc := "(LBadgewood;II[J)I" } : Jvm.MethodName)) ∈ BW := bw_of 913 (by decide +kernel) rfl
theorem bw_861 : (Jvm.Cond.static ({ cls := "BadgewoodLaw", name := "ofChild", desc := "(LBadgewood;II[J)I" } : Jvm.MethodName)) ∈ BW := bw_of 914 (by decide +kernel) rfl
theorem bw_862 : (Jvm.Cond.codeWith ({ cls := "BadgewoodLaw", name := "ofChild", desc := "(LBadgewood;II[J)I" } : Jvm.MethodName) method_24_code (5 : Nat) (Option.some Jvm.ClassFile.FieldType.int) [((0 : Nat), (10 : Nat), (13 : Nat), (25 : Nat)), ((0 : Nat), (10 : Nat), (17 : Nat), (13 : Nat))]) ∈ BW := bw_of 915 (by decide +kernel) rfl
theorem bw_863 : (Jvm.Cond.methodLink "BadgewoodLaw" (87 : Nat) ({ cls := "Badgewood", name := "ofChild", desc := "(II)I" } : Jvm.MethodName)) ∈ BW := bw_of 916 (by decide +kernel) rfl
theorem bw_864 : (Jvm.Cond.instanceMethod ({ cls := "Badgewood", name := "ofChild", desc := "(II)I" } : Jvm.MethodName)) ∈ BW := bw_of 917 (by decide +kernel) rfl
theorem bw_865 : (Jvm.Cond.selects "Badgewood" ({ cls := "Badgewood", name := "ofChild", desc := "(II)I" } : Jvm.MethodName) ({ cls := "Badgewood", name := "ofChild", desc := "(II)I" } : Jvm.MethodName)) ∈ BW := bw_of 918 (by decide +kernel) rfl
theorem bw_866 : (Jvm.Cond.code ({ cls := "Badgewood", name := "ofChild", desc := "(II)I" } : Jvm.MethodName) prog_1_method_25_code (4 : Nat) (Option.some Jvm.ClassFile.FieldType.int)) ∈ BW := bw_of 919 (by decide +kernel) rfl
theorem bw_868 : (Jvm.Cond.methodLink "BadgewoodLaw" (195 : Nat) ({ cls := "BadgewoodLaw", name := "ofTroop", desc := "(LBadgewood;IZ[J)I" } : Jvm.MethodName)) ∈ BW := bw_of 921 (by decide +kernel) rfl
theorem bw_869 : (Jvm.Cond.static ({ cls := "BadgewoodLaw", name := "ofTroop", desc := "(LBadgewood;IZ[J)I" } : Jvm.MethodName)) ∈ BW := bw_of 922 (by decide +kernel) rfl
theorem bw_870 : (Jvm.Cond.codeWith ({ cls := "BadgewoodLaw", name := "ofTroop", desc := "(LBadgewood;IZ[J)I" } : Jvm.MethodName) method_25_code (5 : Nat) (Option.some Jvm.ClassFile.FieldType.int) [((0 : Nat), (10 : Nat), (13 : Nat), (25 : Nat))]) ∈ BW := bw_of 923 (by decide +kernel) rfl
theorem bw_871 : (Jvm.Cond.methodLink "BadgewoodLaw" (90 : Nat) ({ cls := "Badgewood", name := "ofTroop", desc := "(IZ)I" } : Jvm.MethodName)) ∈ BW := bw_of 924 (by decide +kernel) rfl
theorem bw_872 : (Jvm.Cond.instanceMethod ({ cls := "Badgewood", name := "ofTroop", desc := "(IZ)I" } : Jvm.MethodName)) ∈ BW := bw_of 925 (by decide +kernel) rfl
theorem bw_873 : (Jvm.Cond.selects "Badgewood" ({ cls := "Badgewood", name := "ofTroop", desc := "(IZ)I" } : Jvm.MethodName) ({ cls := "Badgewood", name := "ofTroop", desc := "(IZ)I" } : Jvm.MethodName)) ∈ BW := bw_of 926 (by decide +kernel) rfl
theorem bw_874 : (Jvm.Cond.code ({ cls := "Badgewood", name := "ofTroop", desc := "(IZ)I" } : Jvm.MethodName) prog_1_method_26_code (4 : Nat) (Option.some Jvm.ClassFile.FieldType.int)) ∈ BW := bw_of 927 (by decide +kernel) rfl
theorem bw_875 : (Jvm.Cond.methodLink "BadgewoodLaw" (199 : Nat) ({ cls := "BadgewoodLaw", name := "earned", desc := "(LBadgewood;II[J)I" } : Jvm.MethodName)) ∈ BW := bw_of 928 (by decide +kernel) rfl
theorem bw_876 : (Jvm.Cond.static ({ cls := "BadgewoodLaw", name := "earned", desc := "(LBadgewood;II[J)I" } : Jvm.MethodName)) ∈ BW := bw_of 929 (by decide +kernel) rfl
theorem bw_877 : (Jvm.Cond.codeWith ({ cls := "BadgewoodLaw", name := "earned", desc := "(LBadgewood;II[J)I" } : Jvm.MethodName) method_26_code (5 : Nat) (Option.some Jvm.ClassFile.FieldType.int) [((0 : Nat), (10 : Nat), (13 : Nat), (25 : Nat))]) ∈ BW := bw_of 930 (by decide +kernel) rfl
theorem bw_878 : (Jvm.Cond.methodLink "BadgewoodLaw" (94 : Nat) ({ cls := "Badgewood", name := "earned", desc := "(II)I" } : Jvm.MethodName)) ∈ BW := bw_of 931 (by decide +kernel) rfl
theorem bw_879 : (Jvm.Cond.instanceMethod ({ cls := "Badgewood", name := "earned", desc := "(II)I" } : Jvm.MethodName)) ∈ BW := bw_of 932 (by decide +kernel) rfl
theorem bw_880 : (Jvm.Cond.selects "Badgewood" ({ cls := "Badgewood", name := "earned", desc := "(II)I" } : Jvm.MethodName) ({ cls := "Badgewood", name := "earned", desc := "(II)I" } : Jvm.MethodName)) ∈ BW := bw_of 933 (by decide +kernel) rfl
theorem bw_881 : (Jvm.Cond.code ({ cls := "Badgewood", name := "earned", desc := "(II)I" } : Jvm.MethodName) prog_1_method_27_code (5 : Nat) (Option.some Jvm.ClassFile.FieldType.int)) ∈ BW := bw_of 934 (by decide +kernel) rfl
theorem bw_882 : (Jvm.Cond.methodLink "Badgewood" (283 : Nat) ({ cls := "Badgewood$Child", name := "dayEarned", desc := "(I)I" } : Jvm.MethodName)) ∈ BW := bw_of 935 (by decide +kernel) rfl
theorem bw_883 : (Jvm.Cond.methodLink "BadgewoodLaw" (202 : Nat) ({ cls := "BadgewoodLaw", name := "holds", desc := "(LBadgewood;II[J)I" } : Jvm.MethodName)) ∈ BW := bw_of 936 (by decide +kernel) rfl
theorem bw_884 : (Jvm.Cond.static ({ cls := "BadgewoodLaw", name := "holds", desc := "(LBadgewood;II[J)I" } : Jvm.MethodName)) ∈ BW := bw_of 937 (by decide +kernel) rfl
theorem bw_885 : (Jvm.Cond.codeWith ({ cls := "BadgewoodLaw", name := "holds", desc := "(LBadgewood;II[J)I" } : Jvm.MethodName) method_27_code (5 : Nat) (Option.some Jvm.ClassFile.FieldType.int) [((0 : Nat), (17 : Nat), (20 : Nat), (25 : Nat))]) ∈ BW := bw_of 938 (by decide +kernel) rfl
theorem bw_886 : (Jvm.Cond.methodLink "BadgewoodLaw" (97 : Nat) ({ cls := "Badgewood", name := "holds", desc := "(II)Z" } : Jvm.MethodName)) ∈ BW := bw_of 939 (by decide +kernel) rfl
theorem bw_887 : (Jvm.Cond.instanceMethod ({ cls := "Badgewood", name := "holds", desc := "(II)Z" } : Jvm.MethodName)) ∈ BW := bw_of 940 (by decide +kernel) rfl
theorem bw_888 : (Jvm.Cond.selects "Badgewood" ({ cls := "Badgewood", name := "holds", desc := "(II)Z" } : Jvm.MethodName) ({ cls := "Badgewood", name := "holds", desc := "(II)Z" } : Jvm.MethodName)) ∈ BW := bw_of 941 (by decide +kernel) rfl
theorem bw_889 : (Jvm.Cond.code ({ cls := "Badgewood", name := "holds", desc := "(II)Z" } : Jvm.MethodName) prog_1_method_28_code (5 : Nat) (Option.some Jvm.ClassFile.FieldType.boolean)) ∈ BW := bw_of 942 (by decide +kernel) rfl
theorem bw_890 : (Jvm.Cond.methodLink "Badgewood" (286 : Nat) ({ cls := "Badgewood$Course", name := "isHeldOn", desc := "(I)Z" } : Jvm.MethodName)) ∈ BW := bw_of 943 (by decide +kernel) rfl
theorem bw_891 : (Jvm.Cond.instanceMethod ({ cls := "Badgewood$Course", name := "isHeldOn", desc := "(I)Z" } : Jvm.MethodName)) ∈ BW := bw_of 944 (by decide +kernel) rfl
theorem bw_892 : (Jvm.Cond.selects "Badgewood$Course" ({ cls := "Badgewood$Course", name := "isHeldOn", desc := "(I)Z" } : Jvm.MethodName) ({ cls := "Badgewood$Course", name := "isHeldOn", desc := "(I)Z" } : Jvm.MethodName)) ∈ BW := bw_of 945 (by decide +kernel) rfl
theorem bw_893 : (Jvm.Cond.code ({ cls := "Badgewood$Course", name := "isHeldOn", desc := "(I)Z" } : Jvm.MethodName) prog_4_method_2_code (2 : Nat) (Option.some Jvm.ClassFile.FieldType.boolean)) ∈ BW := bw_of 946 (by decide +kernel) rfl
theorem bw_894 : (Jvm.Cond.methodLink "BadgewoodLaw" (205 : Nat) ({ cls := "BadgewoodLaw", name := "lacks", desc := "(LBadgewood;II[J)I" } : Jvm.MethodName)) ∈ BW := bw_of 947 (by decide +kernel) rfl
theorem bw_895 : (Jvm.Cond.static ({ cls := "BadgewoodLaw", name := "lacks", desc := "(LBadgewood;II[J)I" } : Jvm.MethodName)) ∈ BW := bw_of 948 (by decide +kernel) rfl
theorem bw_896 : (Jvm.Cond.codeWith ({ cls := "BadgewoodLaw", name := "lacks", desc := "(LBadgewood;II[J)I" } : Jvm.MethodName) method_28_code (5 : Nat) (Option.some Jvm.ClassFile.FieldType.int) [((0 : Nat), (10 : Nat), (13 : Nat), (25 : Nat)), ((0 : Nat), (10 : Nat), (17 : Nat), (15 : Nat))]) ∈ BW := bw_of 949 (by decide +kernel) rfl
theorem bw_897 : (Jvm.Cond.methodLink "BadgewoodLaw" (101 : Nat) ({ cls := "Badgewood", name := "lacks", desc := "(II)I" } : Jvm.MethodName)) ∈ BW := bw_of 950 (by decide +kernel) rfl
theorem bw_898 : (Jvm.Cond.instanceMethod ({ cls := "Badgewood", name := "lacks", desc := "(II)I" } : Jvm.MethodName)) ∈ BW := bw_of 951 (by decide +kernel) rfl
theorem bw_899 : (Jvm.Cond.selects "Badgewood" ({ cls := "Badgewood", name := "lacks", desc := "(II)I" } : Jvm.MethodName) ({ cls := "Badgewood", name := "lacks", desc := "(II)I" } : Jvm.MethodName)) ∈ BW := bw_of 952 (by decide +kernel) rfl
theorem bw_900 : (Jvm.Cond.code ({ cls := "Badgewood", name := "lacks", desc := "(II)I" } : Jvm.MethodName) prog_1_method_29_code (5 : Nat) (Option.some Jvm.ClassFile.FieldType.int)) ∈ BW := bw_of 953 (by decide +kernel) rfl
theorem bw_902 : (Jvm.Cond.classLink "BadgewoodLaw" (105 : Nat) "BadgewoodModel") ∈ BW := bw_of 955 (by decide +kernel) rfl
theorem bw_903 : (Jvm.Cond.instantiable "BadgewoodModel" (32 : Nat)) ∈ BW := bw_of 956 (by decide +kernel) rfl
theorem bw_904 : (Jvm.Cond.methodLink "BadgewoodLaw" (107 : Nat) ({ cls := "BadgewoodModel", name := "<init>", desc := "()V" } : Jvm.MethodName)) ∈ BW := bw_of 957 (by decide +kernel) rfl
theorem bw_905 : (Jvm.Cond.instanceMethod ({ cls := "BadgewoodModel", name := "<init>", desc := "()V" } : Jvm.MethodName)) ∈ BW := bw_of 958 (by decide +kernel) rfl
theorem bw_906 : (Jvm.Cond.code ({ cls := "BadgewoodModel", name := "<init>", desc := "()V" } : Jvm.MethodName) prog_11_method_1_code (2 : Nat) (Option.none : Option Jvm.ClassFile.FieldType)) ∈ BW := bw_of 959 (by decide +kernel) rfl
theorem bw_907 : (Jvm.Cond.methodLink "BadgewoodModel" (1 : Nat) ({ cls := "java/lang/Object", name := "<init>", desc := "()V" } : Jvm.MethodName)) ∈ BW := bw_of 960 (by decide +kernel) rfl
theorem bw_908 : (Jvm.Cond.fieldLink "BadgewoodModel" (153 : Nat) "BadgewoodModel" "day" "I") ∈ BW := bw_of 961 (by decide +kernel) rfl
theorem bw_909 : (Jvm.Cond.fieldLink "BadgewoodModel" (90 : Nat) "BadgewoodModel" "troops" "I") ∈ BW := bw_of 962 (by decide +kernel) rfl
theorem bw_910 : (Jvm.Cond.fieldLink "BadgewoodModel" (7 : Nat) "BadgewoodModel" "least" "[I") ∈ BW := bw_of 963 (by decide +kernel) rfl
theorem bw_911 : (Jvm.Cond.fieldLink "BadgewoodModel" (13 : Nat) "BadgewoodModel" "most" "[I") ∈ BW := bw_of 964 (by decide +kernel) rfl
theorem bw_912 : (Jvm.Cond.fieldLink "BadgewoodModel" (16 : Nat) "BadgewoodModel" "room" "[I") ∈ BW := bw_of 965 (by decide +kernel) rfl
theorem bw_913 : (Jvm.Cond.fieldLink "BadgewoodModel" (97 : Nat) "BadgewoodModel" "children" "I") ∈ BW := bw_of 966 (by decide +kernel) rfl
theorem bw_914 : (Jvm.Cond.fieldLink "BadgewoodModel" (19 : Nat) "BadgewoodModel" "age" "[I") ∈ BW := bw_of 967 (by decide +kernel) rfl
theorem bw_915 : (Jvm.Cond.fieldLink "BadgewoodModel" (22 : Nat) "BadgewoodModel" "troopOf" "[I") ∈ BW := bw_of 968 (by decide +kernel) rfl
theorem bw_916 : (Jvm.Cond.fieldLink "BadgewoodModel" (25 : Nat) "BadgewoodModel" "waitsFor" "[I") ∈ BW := bw_of 969 (by decide +kernel) rfl
theorem bw_917 : (Jvm.Cond.fieldLink "BadgewoodModel" (28 : Nat) "BadgewoodModel" "since" "[I") ∈ BW := bw_of 970 (by decide +kernel) rfl
theorem bw_918 : (Jvm.Cond.fieldLink "BadgewoodModel" (123 : Nat) "BadgewoodModel" "waited" "I") ∈ BW := bw_of 971 (by decide +kernel) rfl
theorem bw_919 : (Jvm.Cond.fieldLink "BadgewoodModel" (31 : Nat) "BadgewoodModel" "patrolOf" "[I") ∈ BW := bw_of 972 (by decide +kernel) rfl
theorem bw_920 : (Jvm.Cond.fieldLink "BadgewoodModel" (34 : Nat) "BadgewoodModel" "owes" "[I") ∈ BW := bw_of 973 (by decide +kernel) rfl
theorem bw_921 : (Jvm.Cond.fieldLink "BadgewoodModel" (37 : Nat) "BadgewoodModel" "owesTo" "[I") ∈ BW := bw_of 974 (by decide +kernel) rfl
theorem bw_922 : (Jvm.Cond.fieldLink "BadgewoodModel" (40 : Nat) "BadgewoodModel" "taken" "[I") ∈ BW := bw_of 975 (by decide +kernel) rfl
theorem bw_923 : (Jvm.Cond.fieldLink "BadgewoodModel" (43 : Nat) "BadgewoodModel" "hasLeft" "[Z") ∈ BW := bw_of 976 (by decide +kernel) rfl
theorem bw_924 : (Jvm.Cond.fieldLink "BadgewoodModel" (47 : Nat) "BadgewoodModel" "proven" "[I") ∈ BW := bw_of 977 (by decide +kernel) rfl
theorem bw_925 : (Jvm.Cond.fieldLink "BadgewoodModel" (50 : Nat) "BadgewoodModel" "begun" "[I") ∈ BW := bw_of 978 (by decide +kernel) rfl
theorem bw_926 : (Jvm.Cond.fieldLink "BadgewoodModel" (53 : Nat) "BadgewoodModel" "by" "[I") ∈ BW := bw_of 979 (by decide +kernel) rfl
theorem bw_927 : (Jvm.Cond.fieldLink "BadgewoodModel" (100 : Nat) "BadgewoodModel" "leaders" "I") ∈ BW := bw_of 980 (by decide +kernel) rfl
theorem bw_928 : (Jvm.Cond.fieldLink "BadgewoodModel" (56 : Nat) "BadgewoodModel" "vetted" "[I") ∈ BW := bw_of 981 (by decide +kernel) rfl
theorem bw_929 : (Jvm.Cond.fieldLink "BadgewoodModel" (59 : Nat) "BadgewoodModel" "permits" "[I") ∈ BW := bw_of 982 (by decide +kernel) rfl
theorem bw_930 : (Jvm.Cond.fieldLink "BadgewoodModel" (62 : Nat) "BadgewoodModel" "teaches" "[I") ∈ BW := bw_of 983 (by decide +kernel) rfl
theorem bw_931 : (Jvm.Cond.fieldLink "BadgewoodModel" (65 : Nat) "BadgewoodModel" "editions" "[I") ∈ BW := bw_of 984 (by decide +kernel) rfl
theorem bw_932 : (Jvm.Cond.fieldLink "BadgewoodModel" (68 : Nat) "BadgewoodModel" "asked" "[I") ∈ BW := bw_of 985 (by decide +kernel) rfl
theorem bw_933 : (Jvm.Cond.fieldLink "BadgewoodModel" (71 : Nat) "BadgewoodModel" "days" "[I") ∈ BW := bw_of 986 (by decide +kernel) rfl
theorem bw_934 : (Jvm.Cond.fieldLink "BadgewoodModel" (194 : Nat) "BadgewoodModel" "events" "I") ∈ BW := bw_of 987 (by decide +kernel) rfl
theorem bw_935 : (Jvm.Cond.fieldLink "BadgewoodModel" (74 : Nat) "BadgewoodModel" "event" "[I") ∈ BW := bw_of 988 (by decide +kernel) rfl
theorem bw_936 : (Jvm.Cond.fieldLink "BadgewoodModel" (77 : Nat) "BadgewoodModel" "staffed" "[I") ∈ BW := bw_of 989 (by decide +kernel) rfl
theorem bw_937 : (Jvm.Cond.fieldLink "BadgewoodModel" (80 : Nat) "BadgewoodModel" "going" "[I") ∈ BW := bw_of 990 (by decide +kernel) rfl
theorem bw_938 : (Jvm.Cond.fieldLink "BadgewoodModel" (83 : Nat) "BadgewoodModel" "given" "[I") ∈ BW := bw_of 991 (by decide +kernel) rfl
theorem bw_939 : (Jvm.Cond.fieldLink "BadgewoodModel" (86 : Nat) "BadgewoodModel" "thrown" "I") ∈ BW := bw_of 992 (by decide +kernel) rfl
theorem bw_1005 : (Jvm.Cond.arrayClass Jvm.ClassFile.FieldType.boolean) ∈ BW := bw_of 1058 (by decide +kernel) rfl
theorem bw_1006 : (Jvm.Cond.methodLink "BadgewoodLaw" (114 : Nat) ({ cls := "BadgewoodModel", name := "thrown", desc := "()I" } : Jvm.MethodName)) ∈ BW := bw_of 1059 (by decide +kernel) rfl
theorem bw_1007 : (Jvm.Cond.instanceMethod ({ cls := "BadgewoodModel", name := "thrown", desc := "()I" } : Jvm.MethodName)) ∈ BW := bw_of 1060 (by decide +kernel) rfl
theorem bw_1008 : (Jvm.Cond.selects "BadgewoodModel" ({ cls := "BadgewoodModel", name := "thrown", desc := "()I" } : Jvm.MethodName) ({ cls := "BadgewoodModel", name := "thrown", desc := "()I" } : Jvm.MethodName)) ∈ BW := bw_of 1061 (by decide +kernel) rfl
theorem bw_1009 : (Jvm.Cond.code ({ cls := "BadgewoodModel", name := "thrown", desc := "()I" } : Jvm.MethodName) prog_11_method_2_code (1 : Nat) (Option.some Jvm.ClassFile.FieldType.int)) ∈ BW := bw_of 1062 (by decide +kernel) rfl
theorem bw_1010 : (Jvm.Cond.methodLink "BadgewoodLaw" (113 : Nat) ({ cls := "BadgewoodModel", name := "troop", desc := "(III)I" } : Jvm.MethodName)) ∈ BW := bw_of 1063 (by decide +kernel) rfl
theorem bw_1011 : (Jvm.Cond.instanceMethod ({ cls := "BadgewoodModel", name := "troop", desc := "(III)I" } : Jvm.MethodName)) ∈ BW := bw_of 1064 (by decide +kernel) rfl
theorem bw_1012 : (Jvm.Cond.selects "BadgewoodModel" ({ cls := "BadgewoodModel", name := "troop", desc := "(III)I" } : Jvm.MethodName) ({ cls := "BadgewoodModel", name := "troop", desc := "(III)I" } : Jvm.MethodName)) ∈ BW := bw_of 1065 (by decide +kernel) rfl
theorem bw_1013 : (Jvm.Cond.code ({ cls := "BadgewoodModel", name := "troop", desc := "(III)I" } : Jvm.MethodName) prog_11_method_11_code (4 : Nat) (Option.some Jvm.ClassFile.FieldType.int)) ∈ BW := bw_of 1066 (by decide +kernel) rfl
theorem bw_1014 : (Jvm.Cond.methodLink "BadgewoodModel" (93 : Nat) ({ cls := "BadgewoodModel", name := "in", desc := "(III)Z" } : Jvm.MethodName)) ∈ BW := bw_of 1067 (by decide +kernel) rfl
theorem bw_1015 : (Jvm.Cond.static ({ cls := "BadgewoodModel", name := "in", desc := "(III)Z" } : Jvm.MethodName)) ∈ BW := bw_of 1068 (by decide +kernel) rfl
theorem bw_1016 : (Jvm.Cond.code ({ cls := "BadgewoodModel", name := "in", desc := "(III)Z" } : Jvm.MethodName) prog_11_method_5_code (3 : Nat) (Option.some Jvm.ClassFile.FieldType.boolean)) ∈ BW := bw_of 1069 (by decide +kernel) rfl
theorem bw_1017 : (Jvm.Cond.methodLink "BadgewoodModel" (104 : Nat) ({ cls := "BadgewoodModel", name := "asks", desc := "(Z)Z" } : Jvm.MethodName)) ∈ BW := bw_of 1070 (by decide +kernel) rfl
theorem bw_1019 : (Jvm.Cond.instanceMethod ({ cls := "BadgewoodModel", name := "asks", desc := "(Z)Z" } : Jvm.MethodName)) ∈ BW := bw_of 1072 (by decide +kernel) rfl
theorem bw_1020 : (Jvm.Cond.code ({ cls := "BadgewoodModel", name := "asks", desc := "(Z)Z" } : Jvm.MethodName) prog_11_method_4_code (2 : Nat) (Option.some Jvm.ClassFile.FieldType.boolean)) ∈ BW := bw_of 1073 (by decide +kernel) rfl
theorem bw_1021 : (Jvm.Cond.methodLink "BadgewoodModel" (108 : Nat) ({ cls := "BadgewoodModel", name := "fails", desc := "(I)I" } : Jvm.MethodName)) ∈ BW := bw_of 1074 (by decide +kernel) rfl
theorem bw_1023 : (Jvm.Cond.instanceMethod ({ cls := "BadgewoodModel", name := "fails", desc := "(I)I" } : Jvm.MethodName)) ∈ BW := bw_of 1076 (by decide +kernel) rfl
theorem bw_1024 : (Jvm.Cond.code ({ cls := "BadgewoodModel", name := "fails", desc := "(I)I" } : Jvm.MethodName) prog_11_method_3_code (2 : Nat) (Option.some Jvm.ClassFile.FieldType.int)) ∈ BW := bw_of 1077 (by decide +kernel) rfl
theorem bw_1025 : (Jvm.Cond.methodLink "BadgewoodLaw" (120 : Nat) ({ cls := "BadgewoodModel", name := "child", desc := "(I)I" } : Jvm.MethodName)) ∈ BW := bw_of 1078 (by decide +kernel) rfl
theorem bw_1026 : (Jvm.Cond.instanceMethod ({ cls := "BadgewoodModel", name := "child", desc := "(I)I" } : Jvm.MethodName)) ∈ BW := bw_of 1079 (by decide +kernel) rfl
theorem bw_1027 : (Jvm.Cond.selects "BadgewoodModel" ({ cls := "BadgewoodModel", name := "child", desc := "(I)I" } : Jvm.MethodName) ({ cls := "BadgewoodModel", name := "child", desc := "(I)I" } : Jvm.MethodName)) ∈ BW := bw_of 1080 (by decide +kernel) rfl
theorem bw_1028 : (Jvm.Cond.code ({ cls := "BadgewoodModel", name := "child", desc := "(I)I" } : Jvm.MethodName) prog_11_method_12_code (2 : Nat) (Option.some Jvm.ClassFile.FieldType.int)) ∈ BW := bw_of 1081 (by decide +kernel) rfl
theorem bw_1029 : (Jvm.Cond.methodLink "BadgewoodLaw" (124 : Nat) ({ cls := "BadgewoodModel", name := "join", desc := "(II)I" } : Jvm.MethodName)) ∈ BW := bw_of 1082 (by decide +kernel) rfl
theorem bw_1030 : (Jvm.Cond.instanceMethod ({ cls := "BadgewoodModel", name := "join", desc := "(II)I" } : Jvm.MethodName)) ∈ BW := bw_of 1083 (by decide +kernel) rfl
theorem bw_1031 : (Jvm.Cond.selects "BadgewoodModel" ({ cls := "BadgewoodModel", name := "join", desc := "(II)I" } : Jvm.MethodName) ({ cls := "BadgewoodModel", name := "join", desc := "(II)I" } : Jvm.MethodName)) ∈ BW := bw_of 1084 (by decide +kernel) rfl
theorem bw_1032 : (Jvm.Cond.code ({ cls := "BadgewoodModel", name := "join", desc := "(II)I" } : Jvm.MethodName) prog_11_method_19_code (3 : Nat) (Option.some Jvm.ClassFile.FieldType.int)) ∈ BW := bw_of 1085 (by decide +kernel) rfl
theorem bw_1033 : (Jvm.Cond.methodLink "BadgewoodModel" (129 : Nat) ({ cls := "BadgewoodModel", name := "isChild", desc := "(I)Z" } : Jvm.MethodName)) ∈ BW := bw_of 1086 (by decide +kernel) rfl
theorem bw_1035 : (Jvm.Cond.instanceMethod ({ cls := "BadgewoodModel", name := "isChild", desc := "(I)Z" } : Jvm.MethodName)) ∈ BW := bw_of 1088 (by decide +kernel) rfl
theorem bw_1036 : (Jvm.Cond.code ({ cls := "BadgewoodModel", name := "isChild", desc := "(I)Z" } : Jvm.MethodName) prog_11_method_7_code (2 : Nat) (Option.some Jvm.ClassFile.FieldType.boolean)) ∈ BW := bw_of 1089 (by decide +kernel) rfl
theorem bw_1037 : (Jvm.Cond.methodLink "BadgewoodModel" (133 : Nat) ({ cls := "BadgewoodModel", name := "isTroop", desc := "(I)Z" } : Jvm.MethodName)) ∈ BW := bw_of 1090 (by decide +kernel) rfl
theorem bw_1039 : (Jvm.Cond.instanceMethod ({ cls := "BadgewoodModel", name := "isTroop", desc := "(I)Z" } : Jvm.MethodName)) ∈ BW := bw_of 1092 (by decide +kernel) rfl
theorem bw_1040 : (Jvm.Cond.code ({ cls := "BadgewoodModel", name := "isTroop", desc := "(I)Z" } : Jvm.MethodName) prog_11_method_6_code (2 : Nat) (Option.some Jvm.ClassFile.FieldType.boolean)) ∈ BW := bw_of 1093 (by decide +kernel) rfl
theorem bw_1041 : (Jvm.Cond.methodLink "BadgewoodModel" (136 : Nat) ({ cls := "BadgewoodModel", name := "isFor", desc := "(II)Z" } : Jvm.MethodName)) ∈ BW := bw_of 1094 (by decide +kernel) rfl
theorem bw_1043 : (Jvm.Cond.instanceMethod ({ cls := "BadgewoodModel", name := "isFor", desc := "(II)Z" } : Jvm.MethodName)) ∈ BW := bw_of 1096 (by decide +kernel) rfl
theorem bw_1044 : (Jvm.Cond.code ({ cls := "BadgewoodModel", name := "isFor", desc := "(II)Z" } : Jvm.MethodName) prog_11_method_18_code (3 : Nat) (Option.some Jvm.ClassFile.FieldType.boolean)) ∈ BW := bw_of 1097 (by decide +kernel) rfl
theorem bw_1045 : (Jvm.Cond.methodLink "BadgewoodModel" (140 : Nat) ({ cls := "BadgewoodModel", name := "joins", desc := "(II)I" } : Jvm.MethodName)) ∈ BW := bw_of 1098 (by decide +kernel) rfl
theorem bw_1047 : (Jvm.Cond.instanceMethod ({ cls := "BadgewoodModel", name := "joins", desc := "(II)I" } : Jvm.MethodName)) ∈ BW := bw_of 1100 (by decide +kernel) rfl
theorem bw_1048 : (Jvm.Cond.code ({ cls := "BadgewoodModel", name := "joins", desc := "(II)I" } : Jvm.MethodName) prog_11_method_17_code (3 : Nat) (Option.some Jvm.ClassFile.FieldType.int)) ∈ BW := bw_of 1101 (by decide +kernel) rfl
theorem bw_1049 : (Jvm.Cond.methodLink "BadgewoodModel" (116 : Nat) ({ cls := "BadgewoodModel", name := "inTroop", desc := "(I)I" } : Jvm.MethodName)) ∈ BW := bw_of 1102 (by decide +kernel) rfl
theorem bw_1051 : (Jvm.Cond.instanceMethod ({ cls := "BadgewoodModel", name := "inTroop", desc := "(I)I" } : Jvm.MethodName)) ∈ BW := bw_of 1104 (by decide +kernel) rfl
theorem bw_1052 : (Jvm.Cond.code ({ cls := "BadgewoodModel", name := "inTroop", desc := "(I)I" } : Jvm.MethodName) prog_11_method_13_code (4 : Nat) (Option.some Jvm.ClassFile.FieldType.int)) ∈ BW := bw_of 1105 (by decide +kernel) rfl
theorem bw_1053 : (Jvm.Cond.methodLink "BadgewoodModel" (119 : Nat) ({ cls := "BadgewoodModel", name := "comesIn", desc := "(II)V" } : Jvm.MethodName)) ∈ BW := bw_of 1106 (by decide +kernel) rfl
theorem bw_1055 : (Jvm.Cond.instanceMethod ({ cls := "BadgewoodModel", name := "comesIn", desc := "(II)V" } : Jvm.MethodName)) ∈ BW := bw_of 1108 (by decide +kernel) rfl
theorem bw_1056 : (Jvm.Cond.code ({ cls := "BadgewoodModel", name := "comesIn", desc := "(II)V" } : Jvm.MethodName) prog_11_method_16_code (5 : Nat) (Option.none : Option Jvm.ClassFile.FieldType)) ∈ BW := bw_of 1109 (by decide +kernel) rfl
theorem bw_1057 : (Jvm.Cond.methodLink "BadgewoodModel" (112 : Nat) ({ cls := "BadgewoodModel", name := "inPatrol", desc := "(II)I" } : Jvm.MethodName)) ∈ BW := bw_of 1110 (by decide +kernel) rfl
theorem bw_1059 : (Jvm.Cond.instanceMethod ({ cls := "BadgewoodModel", name := "inPatrol", desc := "(II)I" } : Jvm.MethodName)) ∈ BW := bw_of 1112 (by decide +kernel) rfl
theorem bw_1060 : (Jvm.Cond.code ({ cls := "BadgewoodModel", name := "inPatrol", desc := "(II)I" } : Jvm.MethodName) prog_11_method_15_code (5 : Nat) (Option.some Jvm.ClassFile.FieldType.int)) ∈ BW := bw_of 1113 (by decide +kernel) rfl
theorem bw_1061 : (Jvm.Cond.methodLink "BadgewoodModel" (126 : Nat) ({ cls := "BadgewoodModel", name := "waiting", desc := "(I)I" } : Jvm.MethodName)) ∈ BW := bw_of 1114 (by decide +kernel) rfl
theorem bw_1063 : (Jvm.Cond.instanceMethod ({ cls := "BadgewoodModel", name := "waiting", desc := "(I)I" } : Jvm.MethodName)) ∈ BW := bw_of 1116 (by decide +kernel) rfl
theorem bw_1064 : (Jvm.Cond.code ({ cls := "BadgewoodModel", name := "waiting", desc := "(I)I" } : Jvm.MethodName) prog_11_method_14_code (4 : Nat) (Option.some Jvm.ClassFile.FieldType.int)) ∈ BW := bw_of 1117 (by decide +kernel) rfl
theorem bw_1065 : (Jvm.Cond.methodLink "BadgewoodLaw" (127 : Nat) ({ cls := "BadgewoodModel", name := "leave", desc := "(I)I" } : Jvm.MethodName)) ∈ BW := bw_of 1118 (by decide +kernel) rfl
theorem bw_1066 : (Jvm.Cond.instanceMethod ({ cls := "BadgewoodModel", name := "leave", desc := "(I)I" } : Jvm.MethodName)) ∈ BW := bw_of 1119 (by decide +kernel) rfl
theorem bw_1067 : (Jvm.Cond.selects "BadgewoodModel" ({ cls := "BadgewoodModel", name := "leave", desc := "(I)I" } : Jvm.MethodName) ({ cls := "BadgewoodModel", name := "leave", desc := "(I)I" } : Jvm.MethodName)) ∈ BW := bw_of 1120 (by decide +kernel) rfl
theorem bw_1068 : (Jvm.Cond.code ({ cls := "BadgewoodModel", name := "leave", desc := "(I)I" } : Jvm.MethodName) prog_11_method_22_code (4 : Nat) (Option.some Jvm.ClassFile.FieldType.int)) ∈ BW := bw_of 1121 (by decide +kernel) rfl
theorem bw_1069 : (Jvm.Cond.methodLink "BadgewoodModel" (143 : Nat) ({ cls := "BadgewoodModel", name := "goesOut", desc := "(I)V" } : Jvm.MethodName)) ∈ BW := bw_of 1122 (by decide +kernel) rfl
theorem bw_1071 : (Jvm.Cond.instanceMethod ({ cls := "BadgewoodModel", name := "goesOut", desc := "(I)V" } : Jvm.MethodName)) ∈ BW := bw_of 1124 (by decide +kernel) rfl
theorem bw_1072 : (Jvm.Cond.code ({ cls := "BadgewoodModel", name := "goesOut", desc := "(I)V" } : Jvm.MethodName) prog_11_method_21_code (2 : Nat) (Option.none : Option Jvm.ClassFile.FieldType)) ∈ BW := bw_of 1125 (by decide +kernel) rfl
theorem bw_1073 : (Jvm.Cond.methodLink "BadgewoodModel" (147 : Nat) ({ cls := "BadgewoodModel", name := "firstWaiting", desc := "(I)I" } : Jvm.MethodName)) ∈ BW := bw_of 1126 (by decide +kernel) rfl
theorem bw_1075 : (Jvm.Cond.instanceMethod ({ cls := "BadgewoodModel", name := "firstWaiting", desc := "(I)I" } : Jvm.MethodName)) ∈ BW := bw_of 1128 (by decide +kernel) rfl
theorem bw_1076 : (Jvm.Cond.code ({ cls := "BadgewoodModel", name := "firstWaiting", desc := "(I)I" } : Jvm.MethodName) prog_11_method_20_code (4 : Nat) (Option.some Jvm.ClassFile.FieldType.int)) ∈ BW := bw_of 1129 (by decide +kernel) rfl
theorem bw_1077 : (Jvm.Cond.methodLink "BadgewoodLaw" (130 : Nat) ({ cls := "BadgewoodModel", name := "patrol", desc := "(II)I" } : Jvm.MethodName)) ∈ BW := bw_of 1130 (by decide +kernel) rfl
theorem bw_1078 : (Jvm.Cond.instanceMethod ({ cls := "BadgewoodModel", name := "patrol", desc := "(II)I" } : Jvm.MethodName)) ∈ BW := bw_of 1131 (by decide +kernel) rfl
theorem bw_1079 : (Jvm.Cond.selects "BadgewoodModel" ({ cls := "BadgewoodModel", name := "patrol", desc := "(II)I" } : Jvm.MethodName) ({ cls := "BadgewoodModel", name := "patrol", desc := "(II)I" } : Jvm.MethodName)) ∈ BW := bw_of 1132 (by decide +kernel) rfl
theorem bw_1080 : (Jvm.Cond.code ({ cls := "BadgewoodModel", name := "patrol", desc := "(II)I" } : Jvm.MethodName) prog_11_method_23_code (4 : Nat) (Option.some Jvm.ClassFile.FieldType.int)) ∈ BW := bw_of 1133 (by decide +kernel) rfl
theorem bw_1081 : (Jvm.Cond.methodLink "BadgewoodLaw" (133 : Nat) ({ cls := "BadgewoodModel", name := "duty", desc := "(II)I" } : Jvm.MethodName)) ∈ BW := bw_of 1134 (by decide +kernel) rfl
theorem bw_1082 : (Jvm.Cond.instanceMethod ({ cls := "BadgewoodModel", name := "duty", desc := "(II)I" } : Jvm.MethodName)) ∈ BW := bw_of 1135 (by decide +kernel) rfl
theorem bw_1083 : (Jvm.Cond.selects "BadgewoodModel" ({ cls := "BadgewoodModel", name := "duty", desc := "(II)I" } : Jvm.MethodName) ({ cls := "BadgewoodModel", name := "duty", desc := "(II)I" } : Jvm.MethodName)) ∈ BW := bw_of 1136 (by decide +kernel) rfl
theorem bw_1084 : (Jvm.Cond.code ({ cls := "BadgewoodModel", name := "duty", desc := "(II)I" } : Jvm.MethodName) prog_11_method_25_code (8 : Nat) (Option.some Jvm.ClassFile.FieldType.int)) ∈ BW := bw_of 1137 (by decide +kernel) rfl
theorem bw_1085 : (Jvm.Cond.methodLink "BadgewoodModel" (150 : Nat) ({ cls := "BadgewoodModel", name := "isDay", desc := "(I)Z" } : Jvm.MethodName)) ∈ BW := bw_of 1138 (by decide +kernel) rfl
theorem bw_1086 : (Jvm.Cond.static ({ cls := "BadgewoodModel", name := "isDay", desc := "(I)Z" } : Jvm.MethodName)) ∈ BW := bw_of 1139 (by decide +kernel) rfl
theorem bw_1087 : (Jvm.Cond.code ({ cls := "BadgewoodModel", name := "isDay", desc := "(I)Z" } : Jvm.MethodName) prog_11_method_24_code (1 : Nat) (Option.some Jvm.ClassFile.FieldType.boolean)) ∈ BW := bw_of 1140 (by decide +kernel) rfl
theorem bw_1088 : (Jvm.Cond.methodLink "BadgewoodLaw" (136 : Nat) ({ cls := "BadgewoodModel", name := "pass", desc := "(I)I" } : Jvm.MethodName)) ∈ BW := bw_of 1141 (by decide +kernel) rfl
theorem bw_1089 : (Jvm.Cond.instanceMethod ({ cls := "BadgewoodModel", name := "pass", desc := "(I)I" } : Jvm.MethodName)) ∈ BW := bw_of 1142 (by decide +kernel) rfl
theorem bw_1090 : (Jvm.Cond.selects "BadgewoodModel" ({ cls := "BadgewoodModel", name := "pass", desc := "(I)I" } : Jvm.MethodName) ({ cls := "BadgewoodModel", name := "pass", desc := "(I)I" } : Jvm.MethodName)) ∈ BW := bw_of 1143 (by decide +kernel) rfl
theorem bw_1091 : (Jvm.Cond.code ({ cls := "BadgewoodModel", name := "pass", desc := "(I)I" } : Jvm.MethodName) prog_11_method_26_code (2 : Nat) (Option.some Jvm.ClassFile.FieldType.int)) ∈ BW := bw_of 1144 (by decide +kernel) rfl
theorem bw_1092 : (Jvm.Cond.methodLink "BadgewoodLaw" (140 : Nat) ({ cls := "BadgewoodModel", name := "season", desc := "()I" } : Jvm.MethodName)) ∈ BW := bw_of 1145 (by decide +kernel) rfl
theorem bw_1093 : (Jvm.Cond.instanceMethod ({ cls := "BadgewoodModel", name := "season", desc := "()I" } : Jvm.MethodName)) ∈ BW := bw_of 1146 (by decide +kernel) rfl
theorem bw_1094 : (Jvm.Cond.selects "BadgewoodModel" ({ cls := "BadgewoodModel", name := "season", desc := "()I" } : Jvm.MethodName) ({ cls := "BadgewoodModel", name := "season", desc := "()I" } : Jvm.MethodName)) ∈ BW := bw_of 1147 (by decide +kernel) rfl
theorem bw_1095 : (Jvm.Cond.code ({ cls := "BadgewoodModel", name := "season", desc := "()I" } : Jvm.MethodName) prog_11_method_28_code (3 : Nat) (Option.some Jvm.ClassFile.FieldType.int)) ∈ BW := bw_of 1148 (by decide +kernel) rfl
theorem bw_1096 : (Jvm.Cond.methodLink "BadgewoodModel" (156 : Nat) ({ cls := "BadgewoodModel", name := "joinsLowest", desc := "(I)V" } : Jvm.MethodName)) ∈ BW := bw_of 1149 (by decide +kernel) rfl
theorem bw_1098 : (Jvm.Cond.instanceMethod ({ cls := "BadgewoodModel", name := "joinsLowest", desc := "(I)V" } : Jvm.MethodName)) ∈ BW := bw_of 1151 (by decide +kernel) rfl
theorem bw_1099 : (Jvm.Cond.code ({ cls := "BadgewoodModel", name := "joinsLowest", desc := "(I)V" } : Jvm.MethodName) prog_11_method_27_code (4 : Nat) (Option.none : Option Jvm.ClassFile.FieldType)) ∈ BW := bw_of 1152 (by decide +kernel) rfl
theorem bw_1100 : (Jvm.Cond.methodLink "BadgewoodLaw" (144 : Nat) ({ cls := "BadgewoodModel", name := "leader", desc := "()I" } : Jvm.MethodName)) ∈ BW := bw_of 1153 (by decide +kernel) rfl
theorem bw_1101 : (Jvm.Cond.instanceMethod ({ cls := "BadgewoodModel", name := "leader", desc := "()I" } : Jvm.MethodName)) ∈ BW := bw_of 1154 (by decide +kernel) rfl
theorem bw_1102 : (Jvm.Cond.selects "BadgewoodModel" ({ cls := "BadgewoodModel", name := "leader", desc := "()I" } : Jvm.MethodName) ({ cls := "BadgewoodModel", name := "leader", desc := "()I" } : Jvm.MethodName)) ∈ BW := bw_of 1155 (by decide +kernel) rfl
theorem bw_1103 : (Jvm.Cond.code ({ cls := "BadgewoodModel", name := "leader", desc := "()I" } : Jvm.MethodName) prog_11_method_29_code (1 : Nat) (Option.some Jvm.ClassFile.FieldType.int)) ∈ BW := bw_of 1156 (by decide +kernel) rfl
theorem bw_1104 : (Jvm.Cond.methodLink "BadgewoodLaw" (148 : Nat) ({ cls := "BadgewoodModel", name := "vet", desc := "(IIII)V" } : Jvm.MethodName)) ∈ BW := bw_of 1157 (by decide +kernel) rfl
theorem bw_1105 : (Jvm.Cond.instanceMethod ({ cls := "BadgewoodModel", name := "vet", desc := "(IIII)V" } : Jvm.MethodName)) ∈ BW := bw_of 1158 (by decide +kernel) rfl
theorem bw_1106 : (Jvm.Cond.selects "BadgewoodModel" ({ cls := "BadgewoodModel", name := "vet", desc := "(IIII)V" } : Jvm.MethodName) ({ cls := "BadgewoodModel", name := "vet", desc := "(IIII)V" } : Jvm.MethodName)) ∈ BW := bw_of 1159 (by decide +kernel) rfl
theorem bw_1107 : (Jvm.Cond.code ({ cls := "BadgewoodModel", name := "vet", desc := "(IIII)V" } : Jvm.MethodName) prog_11_method_31_code (5 : Nat) (Option.none : Option Jvm.ClassFile.FieldType)) ∈ BW := bw_of 1160 (by decide +kernel) rfl
theorem bw_1108 : (Jvm.Cond.methodLink "BadgewoodModel" (159 : Nat) ({ cls := "BadgewoodModel", name := "isLeader", desc := "(I)Z" } : Jvm.MethodName)) ∈ BW := bw_of 1161 (by decide +kernel) rfl
theorem bw_1110 : (Jvm.Cond.instanceMethod ({ cls := "BadgewoodModel", name := "isLeader", desc := "(I)Z" } : Jvm.MethodName)) ∈ BW := bw_of 1163 (by decide +kernel) rfl
theorem bw_1111 : (Jvm.Cond.code ({ cls := "BadgewoodModel", name := "isLeader", desc := "(I)Z" } : Jvm.MethodName) prog_11_method_8_code (2 : Nat) (Option.some Jvm.ClassFile.FieldType.boolean)) ∈ BW := bw_of 1164 (by decide +kernel) rfl
theorem bw_1112 : (Jvm.Cond.methodLink "BadgewoodModel" (162 : Nat) ({ cls := "BadgewoodModel", name := "isLand", desc := "(I)Z" } : Jvm.MethodName)) ∈ BW := bw_of 1165 (by decide +kernel) rfl
theorem bw_1113 : (Jvm.Cond.static ({ cls := "BadgewoodModel", name := "isLand", desc := "(I)Z" } : Jvm.MethodName)) ∈ BW := bw_of 1166 (by decide +kernel) rfl
theorem bw_1114 : (Jvm.Cond.code ({ cls := "BadgewoodModel", name := "isLand", desc := "(I)Z" } : Jvm.MethodName) prog_11_method_30_code (1 : Nat) (Option.some Jvm.ClassFile.FieldType.boolean)) ∈ BW := bw_of 1167 (by decide +kernel) rfl
theorem bw_1115 : (Jvm.Cond.methodLink "BadgewoodLaw" (151 : Nat) ({ cls := "BadgewoodModel", name := "permit", desc := "(III)I" } : Jvm.MethodName)) ∈ BW := bw_of 1168 (by decide +kernel) rfl
theorem bw_1116 : (Jvm.Cond.instanceMethod ({ cls := "BadgewoodModel", name := "permit", desc := "(III)I" } : Jvm.MethodName)) ∈ BW := bw_of 1169 (by decide +kernel) rfl
theorem bw_1117 : (Jvm.Cond.selects "BadgewoodModel" ({ cls := "BadgewoodModel", name := "permit", desc := "(III)I" } : Jvm.MethodName) ({ cls := "BadgewoodModel", name := "permit", desc := "(III)I" } : Jvm.MethodName)) ∈ BW := bw_of 1170 (by decide +kernel) rfl
theorem bw_1118 : (Jvm.Cond.code ({ cls := "BadgewoodModel", name := "permit", desc := "(III)I" } : Jvm.MethodName) prog_11_method_33_code (5 : Nat) (Option.some Jvm.ClassFile.FieldType.int)) ∈ BW := bw_of 1171 (by decide +kernel) rfl
theorem bw_1119 : (Jvm.Cond.methodLink "BadgewoodLaw" (154 : Nat) ({ cls := "BadgewoodModel", name := "teach", desc := "(II)I" } : Jvm.MethodName)) ∈ BW := bw_of 1172 (by decide +kernel) rfl
theorem bw_1120 : (Jvm.Cond.instanceMethod ({ cls := "BadgewoodModel", name := "teach", desc := "(II)I" } : Jvm.MethodName)) ∈ BW := bw_of 1173 (by decide +kernel) rfl
theorem bw_1121 : (Jvm.Cond.selects "BadgewoodModel" ({ cls := "BadgewoodModel", name := "teach", desc := "(II)I" } : Jvm.MethodName) ({ cls := "BadgewoodModel", name := "teach", desc := "(II)I" } : Jvm.MethodName)) ∈ BW := bw_of 1174 (by decide +kernel) rfl
theorem bw_1122 : (Jvm.Cond.code ({ cls := "BadgewoodModel", name := "teach", desc := "(II)I" } : Jvm.MethodName) prog_11_method_34_code (4 : Nat) (Option.some Jvm.ClassFile.FieldType.int)) ∈ BW := bw_of 1175 (by decide +kernel) rfl
theorem bw_1123 : (Jvm.Cond.methodLink "BadgewoodModel" (165 : Nat) ({ cls := "BadgewoodModel", name := "isSkills", desc := "(I)Z" } : Jvm.MethodName)) ∈ BW := bw_of 1176 (by decide +kernel) rfl
theorem bw_1124 : (Jvm.Cond.static ({ cls := "BadgewoodModel", name := "isSkills", desc := "(I)Z" } : Jvm.MethodName)) ∈ BW := bw_of 1177 (by decide +kernel) rfl
theorem bw_1125 : (Jvm.Cond.code ({ cls := "BadgewoodModel", name := "isSkills", desc := "(I)Z" } : Jvm.MethodName) prog_11_method_9_code (1 : Nat) (Option.some Jvm.ClassFile.FieldType.boolean)) ∈ BW := bw_of 1178 (by decide +kernel) rfl
theorem bw_1126 : (Jvm.Cond.constant "BadgewoodModel" (103 : Nat) (65535 : Int32)) ∈ BW := bw_of 1179 (by decide +kernel) rfl
theorem bw_1127 : (Jvm.Cond.methodLink "BadgewoodLaw" (158 : Nat) ({ cls := "BadgewoodModel", name := "edition", desc := "(IIIIIII)I" } : Jvm.MethodName)) ∈ BW := bw_of 1180 (by decide +kernel) rfl
theorem bw_1128 : (Jvm.Cond.instanceMethod ({ cls := "BadgewoodModel", name := "edition", desc := "(IIIIIII)I" } : Jvm.MethodName)) ∈ BW := bw_of 1181 (by decide +kernel) rfl
theorem bw_1129 : (Jvm.Cond.selects "BadgewoodModel" ({ cls := "BadgewoodModel", name := "edition", desc := "(IIIIIII)I" } : Jvm.MethodName) ({ cls := "BadgewoodModel", name := "edition", desc := "(IIIIIII)I" } : Jvm.MethodName)) ∈ BW := bw_of 1182 (by decide +kernel) rfl
theorem bw_1130 : (Jvm.Cond.code ({ cls := "BadgewoodModel", name := "edition", desc := "(IIIIIII)I" } : Jvm.MethodName) prog_11_method_36_code (10 : Nat) (Option.some Jvm.ClassFile.FieldType.int)) ∈ BW := bw_of 1183 (by decide +kernel) rfl
theorem bw_1131 : (Jvm.Cond.methodLink "BadgewoodModel" (168 : Nat) ({ cls := "BadgewoodModel", name := "isBadge", desc := "(I)Z" } : Jvm.MethodName)) ∈ BW := bw_of 1184 (by decide +kernel) rfl
theorem bw_1132 : (Jvm.Cond.static ({ cls := "BadgewoodModel", name := "isBadge", desc := "(I)Z" } : Jvm.MethodName)) ∈ BW := bw_of 1185 (by decide +kernel) rfl
theorem bw_1133 : (Jvm.Cond.code ({ cls := "BadgewoodModel", name := "isBadge", desc := "(I)Z" } : Jvm.MethodName) prog_11_method_35_code (1 : Nat) (Option.some Jvm.ClassFile.FieldType.boolean)) ∈ BW := bw_of 1186 (by decide +kernel) rfl
theorem bw_1134 : (Jvm.Cond.methodLink "BadgewoodModel" (171 : Nat) ({ cls := "BadgewoodModel", name := "ones", desc := "(I)I" } : Jvm.MethodName)) ∈ BW := bw_of 1187 (by decide +kernel) rfl
theorem bw_1135 : (Jvm.Cond.static ({ cls := "BadgewoodModel", name := "ones", desc := "(I)I" } : Jvm.MethodName)) ∈ BW := bw_of 1188 (by decide +kernel) rfl
theorem bw_1136 : (Jvm.Cond.code ({ cls := "BadgewoodModel", name := "ones", desc := "(I)I" } : Jvm.MethodName) prog_11_method_10_code (3 : Nat) (Option.some Jvm.ClassFile.FieldType.int)) ∈ BW := bw_of 1189 (by decide +kernel) rfl
theorem bw_1137 : (Jvm.Cond.methodLink "BadgewoodLaw" (161 : Nat) ({ cls := "BadgewoodModel", name := "begin", desc := "(II)I" } : Jvm.MethodName)) ∈ BW := bw_of 1190 (by decide +kernel) rfl
theorem bw_1138 : (Jvm.Cond.instanceMethod ({ cls := "BadgewoodModel", name := "begin", desc := "(II)I" } : Jvm.MethodName)) ∈ BW := bw_of 1191 (by decide +kernel) rfl
theorem bw_1139 : (Jvm.Cond.selects "BadgewoodModel" ({ cls := "BadgewoodModel", name := "begin", desc := "(II)I" } : Jvm.MethodName) ({ cls := "BadgewoodModel", name := "begin", desc := "(II)I" } : Jvm.MethodName)) ∈ BW := bw_of 1192 (by decide +kernel) rfl
theorem bw_1140 : (Jvm.Cond.code ({ cls := "BadgewoodModel", name := "begin", desc := "(II)I" } : Jvm.MethodName) prog_11_method_37_code (3 : Nat) (Option.some Jvm.ClassFile.FieldType.int)) ∈ BW := bw_of 1193 (by decide +kernel) rfl
theorem bw_1141 : (Jvm.Cond.methodLink "BadgewoodLaw" (164 : Nat) ({ cls := "BadgewoodModel", name := "prove", desc := "(III)I" } : Jvm.MethodName)) ∈ BW := bw_of 1194 (by decide +kernel) rfl
theorem bw_1142 : (Jvm.Cond.instanceMethod ({ cls := "BadgewoodModel", name := "prove", desc := "(III)I" } : Jvm.MethodName)) ∈ BW := bw_of 1195 (by decide +kernel) rfl
theorem bw_1143 : (Jvm.Cond.selects "BadgewoodModel" ({ cls := "BadgewoodModel", name := "prove", desc := "(III)I" } : Jvm.MethodName) ({ cls := "BadgewoodModel", name := "prove", desc := "(III)I" } : Jvm.MethodName)) ∈ BW := bw_of 1196 (by decide +kernel) rfl
theorem bw_1144 : (Jvm.Cond.code ({ cls := "BadgewoodModel", name := "prove", desc := "(III)I" } : Jvm.MethodName) prog_11_method_43_code (6 : Nat) (Option.some Jvm.ClassFile.FieldType.int)) ∈ BW := bw_of 1197 (by decide +kernel) rfl
theorem bw_1145 : (Jvm.Cond.methodLink "BadgewoodModel" (188 : Nat) ({ cls := "BadgewoodModel", name := "isVetted", desc := "(III)Z" } : Jvm.MethodName)) ∈ BW := bw_of 1198 (by decide +kernel) rfl
theorem bw_1147 : (Jvm.Cond.instanceMethod ({ cls := "BadgewoodModel", name := "isVetted", desc := "(III)Z" } : Jvm.MethodName)) ∈ BW := bw_of 1200 (by decide +kernel) rfl
theorem bw_1148 : (Jvm.Cond.code ({ cls := "BadgewoodModel", name := "isVetted", desc := "(III)Z" } : Jvm.MethodName) prog_11_method_32_code (4 : Nat) (Option.some Jvm.ClassFile.FieldType.boolean)) ∈ BW := bw_of 1201 (by decide +kernel) rfl
theorem bw_1149 : (Jvm.Cond.methodLink "BadgewoodModel" (191 : Nat) ({ cls := "BadgewoodModel", name := "earnedBy", desc := "(I)I" } : Jvm.MethodName)) ∈ BW := bw_of 1202 (by decide +kernel) rfl
theorem bw_1151 : (Jvm.Cond.instanceMethod ({ cls := "BadgewoodModel", name := "earnedBy", desc := "(I)I" } : Jvm.MethodName)) ∈ BW := bw_of 1204 (by decide +kernel) rfl
theorem bw_1152 : (Jvm.Cond.code ({ cls := "BadgewoodModel", name := "earnedBy", desc := "(I)I" } : Jvm.MethodName) prog_11_method_42_code (4 : Nat) (Option.some Jvm.ClassFile.FieldType.int)) ∈ BW := bw_of 1205 (by decide +kernel) rfl
theorem bw_1153 : (Jvm.Cond.methodLink "BadgewoodModel" (185 : Nat) ({ cls := "BadgewoodModel", name := "findsDays", desc := "(I)V" } : Jvm.MethodName)) ∈ BW := bw_of 1206 (by decide +kernel) rfl
theorem bw_1155 : (Jvm.Cond.instanceMethod ({ cls := "BadgewoodModel", name := "findsDays", desc := "(I)V" } : Jvm.MethodName)) ∈ BW := bw_of 1208 (by decide +kernel) rfl
theorem bw_1156 : (Jvm.Cond.code ({ cls := "BadgewoodModel", name := "findsDays", desc := "(I)V" } : Jvm.MethodName) prog_11_method_41_code (6 : Nat) (Option.none : Option Jvm.ClassFile.FieldType)) ∈ BW := bw_of 1209 (by decide +kernel) rfl
theorem bw_1157 : (Jvm.Cond.constant "BadgewoodModel" (174 : Nat) (100000 : Int32)) ∈ BW := bw_of 1210 (by decide +kernel) rfl
theorem bw_1158 : (Jvm.Cond.methodLink "BadgewoodModel" (175 : Nat) ({ cls := "BadgewoodModel", name := "provenOn", desc := "(II)I" } : Jvm.MethodName)) ∈ BW := bw_of 1211 (by decide +kernel) rfl
theorem bw_1160 : (Jvm.Cond.instanceMethod ({ cls := "BadgewoodModel", name := "provenOn", desc := "(II)I" } : Jvm.MethodName)) ∈ BW := bw_of 1213 (by decide +kernel) rfl
theorem bw_1161 : (Jvm.Cond.code ({ cls := "BadgewoodModel", name := "provenOn", desc := "(II)I" } : Jvm.MethodName) prog_11_method_39_code (4 : Nat) (Option.some Jvm.ClassFile.FieldType.int)) ∈ BW := bw_of 1214 (by decide +kernel) rfl
theorem bw_1162 : (Jvm.Cond.methodLink "BadgewoodModel" (178 : Nat) ({ cls := "BadgewoodModel", name := "later", desc := "(II)I" } : Jvm.MethodName)) ∈ BW := bw_of 1215 (by decide +kernel) rfl
theorem bw_1163 : (Jvm.Cond.static ({ cls := "BadgewoodModel", name := "later", desc := "(II)I" } : Jvm.MethodName)) ∈ BW := bw_of 1216 (by decide +kernel) rfl
theorem bw_1164 : (Jvm.Cond.code ({ cls := "BadgewoodModel", name := "later", desc := "(II)I" } : Jvm.MethodName) prog_11_method_38_code (2 : Nat) (Option.some Jvm.ClassFile.FieldType.int)) ∈ BW := bw_of 1217 (by decide +kernel) rfl
theorem bw_1165 : (Jvm.Cond.methodLink "BadgewoodModel" (181 : Nat) ({ cls := "BadgewoodModel", name := "dayOfMany", desc := "(III)I" } : Jvm.MethodName)) ∈ BW := bw_of 1218 (by decide +kernel) rfl
theorem bw_1167 : (Jvm.Cond.instanceMethod ({ cls := "BadgewoodModel", name := "dayOfMany", desc := "(III)I" } : Jvm.MethodName)) ∈ BW := bw_of 1220 (by decide +kernel) rfl
theorem bw_1168 : (Jvm.Cond.code ({ cls := "BadgewoodModel", name := "dayOfMany", desc := "(III)I" } : Jvm.MethodName) prog_11_method_40_code (9 : Nat) (Option.some Jvm.ClassFile.FieldType.int)) ∈ BW := bw_of 1221 (by decide +kernel) rfl
theorem bw_1169 : (Jvm.Cond.methodLink "BadgewoodLaw" (168 : Nat) ({ cls := "BadgewoodModel", name := "event", desc := "(IIIIII)I" } : Jvm.MethodName)) ∈ BW := bw_of 1222 (by decide +kernel) rfl
theorem bw_1170 : (Jvm.Cond.instanceMethod ({ cls := "BadgewoodModel", name := "event", desc := "(IIIIII)I" } : Jvm.MethodName)) ∈ BW := bw_of 1223 (by decide +kernel) rfl
theorem bw_1171 : (Jvm.Cond.selects "BadgewoodModel" ({ cls := "BadgewoodModel", name := "event", desc := "(IIIIII)I" } : Jvm.MethodName) ({ cls := "BadgewoodModel", name := "event", desc := "(IIIIII)I" } : Jvm.MethodName)) ∈ BW := bw_of 1224 (by decide +kernel) rfl
theorem bw_1172 : (Jvm.Cond.code ({ cls := "BadgewoodModel", name := "event", desc := "(IIIIII)I" } : Jvm.MethodName) prog_11_method_44_code (8 : Nat) (Option.some Jvm.ClassFile.FieldType.int)) ∈ BW := bw_of 1225 (by decide +kernel) rfl
theorem bw_1173 : (Jvm.Cond.methodLink "BadgewoodLaw" (172 : Nat) ({ cls := "BadgewoodModel", name := "staff", desc := "(IIZ)I" } : Jvm.MethodName)) ∈ BW := bw_of 1226 (by decide +kernel) rfl
theorem bw_1174 : (Jvm.Cond.instanceMethod ({ cls := "BadgewoodModel", name := "staff", desc := "(IIZ)I" } : Jvm.MethodName)) ∈ BW := bw_of 1227 (by decide +kernel) rfl
theorem bw_1175 : (Jvm.Cond.selects "BadgewoodModel" ({ cls := "BadgewoodModel", name := "staff", desc := "(IIZ)I" } : Jvm.MethodName) ({ cls := "BadgewoodModel", name := "staff", desc := "(IIZ)I" } : Jvm.MethodName)) ∈ BW := bw_of 1228 (by decide +kernel) rfl
theorem bw_1176 : (Jvm.Cond.code ({ cls := "BadgewoodModel", name := "staff", desc := "(IIZ)I" } : Jvm.MethodName) prog_11_method_47_code (6 : Nat) (Option.some Jvm.ClassFile.FieldType.int)) ∈ BW := bw_of 1229 (by decide +kernel) rfl
theorem bw_1177 : (Jvm.Cond.methodLink "BadgewoodModel" (197 : Nat) ({ cls := "BadgewoodModel", name := "isEvent", desc := "(I)Z" } : Jvm.MethodName)) ∈ BW := bw_of 1230 (by decide +kernel) rfl
theorem bw_1179 : (Jvm.Cond.instanceMethod ({ cls := "BadgewoodModel", name := "isEvent", desc := "(I)Z" } : Jvm.MethodName)) ∈ BW := bw_of 1232 (by decide +kernel) rfl
theorem bw_1180 : (Jvm.Cond.code ({ cls := "BadgewoodModel", name := "isEvent", desc := "(I)Z" } : Jvm.MethodName) prog_11_method_45_code (2 : Nat) (Option.some Jvm.ClassFile.FieldType.boolean)) ∈ BW := bw_of 1233 (by decide +kernel) rfl
theorem bw_1181 : (Jvm.Cond.methodLink "BadgewoodModel" (200 : Nat) ({ cls := "BadgewoodModel", name := "meet", desc := "(II)Z" } : Jvm.MethodName)) ∈ BW := bw_of 1234 (by decide +kernel) rfl
theorem bw_1183 : (Jvm.Cond.instanceMethod ({ cls := "BadgewoodModel", name := "meet", desc := "(II)Z" } : Jvm.MethodName)) ∈ BW := bw_of 1236 (by decide +kernel) rfl
theorem bw_1184 : (Jvm.Cond.code ({ cls := "BadgewoodModel", name := "meet", desc := "(II)Z" } : Jvm.MethodName) prog_11_method_46_code (5 : Nat) (Option.some Jvm.ClassFile.FieldType.boolean)) ∈ BW := bw_of 1237 (by decide +kernel) rfl
theorem bw_1185 : (Jvm.Cond.methodLink "BadgewoodLaw" (175 : Nat) ({ cls := "BadgewoodModel", name := "why", desc := "(I)I" } : Jvm.MethodName)) ∈ BW := bw_of 1238 (by decide +kernel) rfl
theorem bw_1186 : (Jvm.Cond.instanceMethod ({ cls := "BadgewoodModel", name := "why", desc := "(I)I" } : Jvm.MethodName)) ∈ BW := bw_of 1239 (by decide +kernel) rfl
theorem bw_1187 : (Jvm.Cond.selects "BadgewoodModel" ({ cls := "BadgewoodModel", name := "why", desc := "(I)I" } : Jvm.MethodName) ({ cls := "BadgewoodModel", name := "why", desc := "(I)I" } : Jvm.MethodName)) ∈ BW := bw_of 1240 (by decide +kernel) rfl
theorem bw_1188 : (Jvm.Cond.code ({ cls := "BadgewoodModel", name := "why", desc := "(I)I" } : Jvm.MethodName) prog_11_method_50_code (2 : Nat) (Option.some Jvm.ClassFile.FieldType.int)) ∈ BW := bw_of 1241 (by decide +kernel) rfl
theorem bw_1189 : (Jvm.Cond.methodLink "BadgewoodModel" (206 : Nat) ({ cls := "BadgewoodModel", name := "reason", desc := "(II)I" } : Jvm.MethodName)) ∈ BW := bw_of 1242 (by decide +kernel) rfl
theorem bw_1191 : (Jvm.Cond.instanceMethod ({ cls := "BadgewoodModel", name := "reason", desc := "(II)I" } : Jvm.MethodName)) ∈ BW := bw_of 1244 (by decide +kernel) rfl
theorem bw_1192 : (Jvm.Cond.code ({ cls := "BadgewoodModel", name := "reason", desc := "(II)I" } : Jvm.MethodName) prog_11_method_49_code (9 : Nat) (Option.some Jvm.ClassFile.FieldType.int)) ∈ BW := bw_of 1245 (by decide +kernel) rfl
theorem bw_1193 : (Jvm.Cond.methodLink "BadgewoodModel" (203 : Nat) ({ cls := "BadgewoodModel", name := "ratio", desc := "(I)I" } : Jvm.MethodName)) ∈ BW := bw_of 1246 (by decide +kernel) rfl
theorem bw_1194 : (Jvm.Cond.static ({ cls := "BadgewoodModel", name := "ratio", desc := "(I)I" } : Jvm.MethodName)) ∈ BW := bw_of 1247 (by decide +kernel) rfl
theorem bw_1195 : (Jvm.Cond.code ({ cls := "BadgewoodModel", name := "ratio", desc := "(I)I" } : Jvm.MethodName) prog_11_method_48_code (1 : Nat) (Option.some Jvm.ClassFile.FieldType.int)) ∈ BW := bw_of 1248 (by decide +kernel) rfl
theorem bw_1196 : (Jvm.Cond.methodLink "BadgewoodLaw" (178 : Nat) ({ cls := "BadgewoodModel", name := "couldStaff", desc := "(III)Z" } : Jvm.MethodName)) ∈ BW := bw_of 1249 (by decide +kernel) rfl
theorem bw_1197 : (Jvm.Cond.instanceMethod ({ cls := "BadgewoodModel", name := "couldStaff", desc := "(III)Z" } : Jvm.MethodName)) ∈ BW := bw_of 1250 (by decide +kernel) rfl
theorem bw_1198 : (Jvm.Cond.selects "BadgewoodModel" ({ cls := "BadgewoodModel", name := "couldStaff", desc := "(III)Z" } : Jvm.MethodName) ({ cls := "BadgewoodModel", name := "couldStaff", desc := "(III)Z" } : Jvm.MethodName)) ∈ BW := bw_of 1251 (by decide +kernel) rfl
theorem bw_1199 : (Jvm.Cond.code ({ cls := "BadgewoodModel", name := "couldStaff", desc := "(III)Z" } : Jvm.MethodName) prog_11_method_51_code (8 : Nat) (Option.some Jvm.ClassFile.FieldType.boolean)) ∈ BW := bw_of 1252 (by decide +kernel) rfl
theorem bw_1200 : (Jvm.Cond.methodLink "BadgewoodModel" (209 : Nat) ({ cls := "BadgewoodModel", name := "areLawful", desc := "(III)Z" } : Jvm.MethodName)) ∈ BW := bw_of 1253 (by decide +kernel) rfl
theorem bw_1202 : (Jvm.Cond.instanceMethod ({ cls := "BadgewoodModel", name := "areLawful", desc := "(III)Z" } : Jvm.MethodName)) ∈ BW := bw_of 1255 (by decide +kernel) rfl
theorem bw_1203 : (Jvm.Cond.code ({ cls := "BadgewoodModel", name := "areLawful", desc := "(III)Z" } : Jvm.MethodName) prog_11_method_52_code (7 : Nat) (Option.some Jvm.ClassFile.FieldType.boolean)) ∈ BW := bw_of 1256 (by decide +kernel) rfl
theorem bw_1204 : (Jvm.Cond.methodLink "BadgewoodLaw" (181 : Nat) ({ cls := "BadgewoodModel", name := "boxes", desc := "(II)I" } : Jvm.MethodName)) ∈ BW := bw_of 1257 (by decide +kernel) rfl
theorem bw_1205 : (Jvm.Cond.instanceMethod ({ cls := "BadgewoodModel", name := "boxes", desc := "(II)I" } : Jvm.MethodName)) ∈ BW := bw_of 1258 (by decide +kernel) rfl
theorem bw_1206 : (Jvm.Cond.selects "BadgewoodModel" ({ cls := "BadgewoodModel", name := "boxes", desc := "(II)I" } : Jvm.MethodName) ({ cls := "BadgewoodModel", name := "boxes", desc := "(II)I" } : Jvm.MethodName)) ∈ BW := bw_of 1259 (by decide +kernel) rfl
theorem bw_1207 : (Jvm.Cond.code ({ cls := "BadgewoodModel", name := "boxes", desc := "(II)I" } : Jvm.MethodName) prog_11_method_53_code (4 : Nat) (Option.some Jvm.ClassFile.FieldType.int)) ∈ BW := bw_of 1260 (by decide +kernel) rfl
theorem bw_1208 : (Jvm.Cond.methodLink "BadgewoodLaw" (184 : Nat) ({ cls := "BadgewoodModel", name := "pay", desc := "(II)I" } : Jvm.MethodName)) ∈ BW := bw_of 1261 (by decide +kernel) rfl
theorem bw_1209 : (Jvm.Cond.instanceMethod ({ cls := "BadgewoodModel", name := "pay", desc := "(II)I" } : Jvm.MethodName)) ∈ BW := bw_of 1262 (by decide +kernel) rfl
theorem bw_1210 : (Jvm.Cond.selects "BadgewoodModel" ({ cls := "BadgewoodModel", name := "pay", desc := "(II)I" } : Jvm.MethodName) ({ cls := "BadgewoodModel", name := "pay", desc := "(II)I" } : Jvm.MethodName)) ∈ BW := bw_of 1263 (by decide +kernel) rfl
theorem bw_1211 : (Jvm.Cond.code ({ cls := "BadgewoodModel", name := "pay", desc := "(II)I" } : Jvm.MethodName) prog_11_method_54_code (3 : Nat) (Option.some Jvm.ClassFile.FieldType.int)) ∈ BW := bw_of 1264 (by decide +kernel) rfl
theorem bw_1212 : (Jvm.Cond.methodLink "BadgewoodLaw" (187 : Nat) ({ cls := "BadgewoodModel", name := "owed", desc := "(I)I" } : Jvm.MethodName)) ∈ BW := bw_of 1265 (by decide +kernel) rfl
theorem bw_1213 : (Jvm.Cond.instanceMethod ({ cls := "BadgewoodModel", name := "owed", desc := "(I)I" } : Jvm.MethodName)) ∈ BW := bw_of 1266 (by decide +kernel) rfl
theorem bw_1214 : (Jvm.Cond.selects "BadgewoodModel" ({ cls := "BadgewoodModel", name := "owed", desc := "(I)I" } : Jvm.MethodName) ({ cls := "BadgewoodModel", name := "owed", desc := "(I)I" } : Jvm.MethodName)) ∈ BW := bw_of 1267 (by decide +kernel) rfl
theorem bw_1215 : (Jvm.Cond.code ({ cls := "BadgewoodModel", name := "owed", desc := "(I)I" } : Jvm.MethodName) prog_11_method_55_code (4 : Nat) (Option.some Jvm.ClassFile.FieldType.int)) ∈ BW := bw_of 1268 (by decide +kernel) rfl
theorem bw_1216 : (Jvm.Cond.methodLink "BadgewoodLaw" (191 : Nat) ({ cls := "BadgewoodModel", name := "today", desc := "()I" } : Jvm.MethodName)) ∈ BW := bw_of 1269 (by decide +kernel) rfl
theorem bw_1217 : (Jvm.Cond.instanceMethod ({ cls := "BadgewoodModel", name := "today", desc := "()I" } : Jvm.MethodName)) ∈ BW := bw_of 1270 (by decide +kernel) rfl
theorem bw_1218 : (Jvm.Cond.selects "BadgewoodModel" ({ cls := "BadgewoodModel", name := "today", desc := "()I" } : Jvm.MethodName) ({ cls := "BadgewoodModel", name := "today", desc := "()I" } : Jvm.MethodName)) ∈ BW := bw_of 1271 (by decide +kernel) rfl
theorem bw_1219 : (Jvm.Cond.code ({ cls := "BadgewoodModel", name := "today", desc := "()I" } : Jvm.MethodName) prog_11_method_56_code (1 : Nat) (Option.some Jvm.ClassFile.FieldType.int)) ∈ BW := bw_of 1272 (by decide +kernel) rfl
theorem bw_1220 : (Jvm.Cond.methodLink "BadgewoodLaw" (194 : Nat) ({ cls := "BadgewoodModel", name := "ofChild", desc := "(II)I" } : Jvm.MethodName)) ∈ BW := bw_of 1273 (by decide +kernel) rfl
theorem bw_1221 : (Jvm.Cond.instanceMethod ({ cls := "BadgewoodModel", name := "ofChild", desc := "(II)I" } : Jvm.MethodName)) ∈ BW := bw_of 1274 (by decide +kernel) rfl
theorem bw_1222 : (Jvm.Cond.selects "BadgewoodModel" ({ cls := "BadgewoodModel", name := "ofChild", desc := "(II)I" } : Jvm.MethodName) ({ cls := "BadgewoodModel", name := "ofChild", desc := "(II)I" } : Jvm.MethodName)) ∈ BW := bw_of 1275 (by decide +kernel) rfl
theorem bw_1223 : (Jvm.Cond.code ({ cls := "BadgewoodModel", name := "ofChild", desc := "(II)I" } : Jvm.MethodName) prog_11_method_57_code (3 : Nat) (Option.some Jvm.ClassFile.FieldType.int)) ∈ BW := bw_of 1276 (by decide +kernel) rfl
theorem bw_1224 : (Jvm.Cond.methodLink "BadgewoodLaw" (198 : Nat) ({ cls := "BadgewoodModel", name := "ofTroop", desc := "(IZ)I" } : Jvm.MethodName)) ∈ BW := bw_of 1277 (by decide +kernel) rfl
theorem bw_1225 : (Jvm.Cond.instanceMethod ({ cls := "BadgewoodModel", name := "ofTroop", desc := "(IZ)I" } : Jvm.MethodName)) ∈ BW := bw_of 1278 (by decide +kernel) rfl
theorem bw_1226 : (Jvm.Cond.selects "BadgewoodModel" ({ cls := "BadgewoodModel", name := "ofTroop", desc := "(IZ)I" } : Jvm.MethodName) ({ cls := "BadgewoodModel", name := "ofTroop", desc := "(IZ)I" } : Jvm.MethodName)) ∈ BW := bw_of 1279 (by decide +kernel) rfl
theorem bw_1227 : (Jvm.Cond.code ({ cls := "BadgewoodModel", name := "ofTroop", desc := "(IZ)I" } : Jvm.MethodName) prog_11_method_58_code (3 : Nat) (Option.some Jvm.ClassFile.FieldType.int)) ∈ BW := bw_of 1280 (by decide +kernel) rfl
theorem bw_1228 : (Jvm.Cond.methodLink "BadgewoodLaw" (201 : Nat) ({ cls := "BadgewoodModel", name := "earned", desc := "(II)I" } : Jvm.MethodName)) ∈ BW := bw_of 1281 (by decide +kernel) rfl
theorem bw_1229 : (Jvm.Cond.instanceMethod ({ cls := "BadgewoodModel", name := "earned", desc := "(II)I" } : Jvm.MethodName)) ∈ BW := bw_of 1282 (by decide +kernel) rfl
theorem bw_1230 : (Jvm.Cond.selects "BadgewoodModel" ({ cls := "BadgewoodModel", name := "earned", desc := "(II)I" } : Jvm.MethodName) ({ cls := "BadgewoodModel", name := "earned", desc := "(II)I" } : Jvm.MethodName)) ∈ BW := bw_of 1283 (by decide +kernel) rfl
theorem bw_1231 : (Jvm.Cond.code ({ cls := "BadgewoodModel", name := "earned", desc := "(II)I" } : Jvm.MethodName) prog_11_method_59_code (3 : Nat) (Option.some Jvm.ClassFile.FieldType.int)) ∈ BW := bw_of 1284 (by decide +kernel) rfl
theorem bw_1232 : (Jvm.Cond.methodLink "BadgewoodLaw" (204 : Nat) ({ cls := "BadgewoodModel", name := "holds", desc := "(II)Z" } : Jvm.MethodName)) ∈ BW := bw_of 1285 (by decide +kernel) rfl
theorem bw_1233 : (Jvm.Cond.instanceMethod ({ cls := "BadgewoodModel", name := "holds", desc := "(II)Z" } : Jvm.MethodName)) ∈ BW := bw_of 1286 (by decide +kernel) rfl
theorem bw_1234 : (Jvm.Cond.selects "BadgewoodModel" ({ cls := "BadgewoodModel", name := "holds", desc := "(II)Z" } : Jvm.MethodName) ({ cls := "BadgewoodModel", name := "holds", desc := "(II)Z" } : Jvm.MethodName)) ∈ BW := bw_of 1287 (by decide +kernel) rfl
theorem bw_1235 : (Jvm.Cond.code ({ cls := "BadgewoodModel", name := "holds", desc := "(II)Z" } : Jvm.MethodName) prog_11_method_60_code (4 : Nat) (Option.some Jvm.ClassFile.FieldType.boolean)) ∈ BW := bw_of 1288 (by decide +kernel) rfl
theorem bw_1236 : (Jvm.Cond.methodLink "BadgewoodLaw" (207 : Nat) ({ cls := "BadgewoodModel", name := "lacks", desc := "(II)I" } : Jvm.MethodName)) ∈ BW := bw_of 1289 (by decide +kernel) rfl
theorem bw_1237 : (Jvm.Cond.instanceMethod ({ cls := "BadgewoodModel", name := "lacks", desc := "(II)I" } : Jvm.MethodName)) ∈ BW := bw_of 1290 (by decide +kernel) rfl
theorem bw_1238 : (Jvm.Cond.selects "BadgewoodModel" ({ cls := "BadgewoodModel", name := "lacks", desc := "(II)I" } : Jvm.MethodName) ({ cls := "BadgewoodModel", name := "lacks", desc := "(II)I" } : Jvm.MethodName)) ∈ BW := bw_of 1291 (by decide +kernel) rfl
theorem bw_1239 : (Jvm.Cond.code ({ cls := "BadgewoodModel", name := "lacks", desc := "(II)I" } : Jvm.MethodName) prog_11_method_61_code (6 : Nat) (Option.some Jvm.ClassFile.FieldType.int)) ∈ BW := bw_of 1292 (by decide +kernel) rfl
theorem bw_1240 : (Jvm.Cond.arrayClass Jvm.ClassFile.FieldType.long) ∈ BW := bw_of 1293 (by decide +kernel) rfl
theorem bw_1241 : (Jvm.Cond.sameMethod "java/lang/Throwable" "java/lang/Throwable" "fillInStackTrace" "(I)Ljava/lang/Throwable;") ∈ BW := bw_of 1294 (by decide +kernel) rfl
theorem nw_1242 : (Jvm.Cond.castable "Badgewood$Badge" "java/lang/Object") ∈ NW := nw_of 1295 (by decide +kernel) rfl
theorem nw_1243 : (Jvm.Cond.castable "Badgewood$Course" "java/lang/Object") ∈ NW := nw_of 1296 (by decide +kernel) rfl
theorem nw_1244 : (Jvm.Cond.castable "Badgewood" "java/lang/Object") ∈ NW := nw_of 1297 (by decide +kernel) rfl
theorem nw_1245 : (Jvm.Cond.castable "java/util/ArrayList" "java/lang/Object") ∈ NW := nw_of 1298 (by decide +kernel) rfl
theorem nw_1246 : (Jvm.Cond.castable "BadgewoodModel" "java/lang/Object") ∈ NW := nw_of 1299 (by decide +kernel) rfl
theorem nw_1247 : (Jvm.Cond.castable "java/lang/IllegalArgumentException" "java/lang/Object") ∈ NW := nw_of 1300 (by decide +kernel) rfl
theorem nw_1248 : (Jvm.Cond.castable "java/lang/IllegalStateException" "java/lang/Object") ∈ NW := nw_of 1301 (by decide +kernel) rfl
theorem nw_1249 : (Jvm.Cond.castable "Badgewood$Troop" "java/lang/Object") ∈ NW := nw_of 1302 (by decide +kernel) rfl
theorem nw_1250 : (Jvm.Cond.castable "Badgewood$Child" "java/lang/Object") ∈ NW := nw_of 1303 (by decide +kernel) rfl
theorem nw_1251 : (Jvm.Cond.castable "java/lang/IndexOutOfBoundsException" "java/lang/Object") ∈ NW := nw_of 1304 (by decide +kernel) rfl
theorem nw_1252 : (Jvm.Cond.castable "Badgewood$Leader" "java/lang/Object") ∈ NW := nw_of 1305 (by decide +kernel) rfl
theorem nw_1253 : (Jvm.Cond.castable "Badgewood$Edition" "java/lang/Object") ∈ NW := nw_of 1306 (by decide +kernel) rfl
theorem nw_1254 : (Jvm.Cond.castable "Badgewood$Event" "java/lang/Object") ∈ NW := nw_of 1307 (by decide +kernel) rfl
theorem nw_1255 : (Jvm.Cond.castable "Badgewood$Need" "java/lang/Object") ∈ NW := nw_of 1308 (by decide +kernel) rfl
theorem nw_1256 : (Jvm.Cond.castable "java/lang/Throwable" "java/lang/Object") ∈ NW := nw_of 1309 (by decide +kernel) rfl
theorem nw_1257 : (Jvm.Cond.castable "java/lang/String" "java/lang/Object") ∈ NW := nw_of 1310 (by decide +kernel) rfl
theorem bw_1258 : (Jvm.Cond.sameMethod "[Ljava/lang/Object;" "java/lang/Object" "getClass" "()Ljava/lang/Class;") ∈ BW := bw_of 1311 (by decide +kernel) rfl
theorem bw_1259 : (Jvm.Cond.selects "[Ljava/lang/Object;" ({ cls := "java/lang/Object", name := "getClass", desc := "()Ljava/lang/Class;" } : Jvm.MethodName) ({ cls := "java/lang/Object", name := "getClass", desc := "()Ljava/lang/Class;" } : Jvm.MethodName)) ∈ BW := bw_of 1312 (by decide +kernel) rfl
theorem nw_1260 : (Jvm.Cond.declares ({ cls := "java/lang/Object", name := "getClass", desc := "()Ljava/lang/Class;" } : Jvm.MethodName)) ∈ NW := nw_of 1313 (by decide +kernel) rfl
theorem nw_1261 : (Jvm.Cond.castable "[LBadgewood$Badge;" "java/lang/Object") ∈ NW := nw_of 1314 (by decide +kernel) rfl
theorem nw_1262 : (Jvm.Cond.castable "[B" "java/lang/Object") ∈ NW := nw_of 1315 (by decide +kernel) rfl
theorem nw_1263 : (Jvm.Cond.castable "[Ljava/lang/Object;" "java/lang/Object") ∈ NW := nw_of 1316 (by decide +kernel) rfl
theorem nw_1264 : (Jvm.Cond.castable "[LBadgewood$Course;" "java/lang/Object") ∈ NW := nw_of 1317 (by decide +kernel) rfl
theorem nw_1265 : (Jvm.Cond.castable "[I" "java/lang/Object") ∈ NW := nw_of 1318 (by decide +kernel) rfl
theorem nw_1266 : (Jvm.Cond.castable "[Z" "java/lang/Object") ∈ NW := nw_of 1319 (by decide +kernel) rfl
theorem nw_1267 : (Jvm.Cond.castable "[J" "java/lang/Object") ∈ NW := nw_of 1320 (by decide +kernel) rfl
theorem bw_p0 : (Jvm.Cond.selects "Badgewood" ({ cls := "Badgewood", name := "sendOutByAge", desc := "()I" } : Jvm.MethodName) ({ cls := "Badgewood", name := "sendOutByAge", desc := "()I" } : Jvm.MethodName)) ∈ BW := bw_of 0 (by decide +kernel) rfl
theorem bw_p1 : (Jvm.Cond.selects "Badgewood" ({ cls := "Badgewood", name := "sendOutOf", desc := "(LBadgewood$Troop;)I" } : Jvm.MethodName) ({ cls := "Badgewood", name := "sendOutOf", desc := "(LBadgewood$Troop;)I" } : Jvm.MethodName)) ∈ BW := bw_of 1 (by decide +kernel) rfl
theorem bw_p2 : (Jvm.Cond.selects "Badgewood" ({ cls := "Badgewood", name := "fillUp", desc := "(LBadgewood$Troop;)V" } : Jvm.MethodName) ({ cls := "Badgewood", name := "fillUp", desc := "(LBadgewood$Troop;)V" } : Jvm.MethodName)) ∈ BW := bw_of 2 (by decide +kernel) rfl
theorem bw_p3 : (Jvm.Cond.selects "Badgewood" ({ cls := "Badgewood", name := "childrenIn", desc := "(I)I" } : Jvm.MethodName) ({ cls := "Badgewood", name := "childrenIn", desc := "(I)I" } : Jvm.MethodName)) ∈ BW := bw_of 3 (by decide +kernel) rfl
theorem bw_p4 : (Jvm.Cond.selects "Badgewood" ({ cls := "Badgewood", name := "letFirstIn", desc := "(I)I" } : Jvm.MethodName) ({ cls := "Badgewood", name := "letFirstIn", desc := "(I)I" } : Jvm.MethodName)) ∈ BW := bw_of 4 (by decide +kernel) rfl
theorem bw_p5 : (Jvm.Cond.selects "Badgewood" ({ cls := "Badgewood", name := "firstWaiting", desc := "(I)LBadgewood$Child;" } : Jvm.MethodName) ({ cls := "Badgewood", name := "firstWaiting", desc := "(I)LBadgewood$Child;" } : Jvm.MethodName)) ∈ BW := bw_of 5 (by decide +kernel) rfl
theorem bw_p6 : (Jvm.Cond.selects "Badgewood" ({ cls := "Badgewood", name := "comeIn", desc := "(LBadgewood$Child;I)V" } : Jvm.MethodName) ({ cls := "Badgewood", name := "comeIn", desc := "(LBadgewood$Child;I)V" } : Jvm.MethodName)) ∈ BW := bw_of 6 (by decide +kernel) rfl
theorem bw_p7 : (Jvm.Cond.selects "Badgewood" ({ cls := "Badgewood", name := "smallestPatrol", desc := "(I)I" } : Jvm.MethodName) ({ cls := "Badgewood", name := "smallestPatrol", desc := "(I)I" } : Jvm.MethodName)) ∈ BW := bw_of 7 (by decide +kernel) rfl
theorem bw_p8 : (Jvm.Cond.selects "Badgewood" ({ cls := "Badgewood", name := "childrenInPatrol", desc := "(II)I" } : Jvm.MethodName) ({ cls := "Badgewood", name := "childrenInPatrol", desc := "(II)I" } : Jvm.MethodName)) ∈ BW := bw_of 8 (by decide +kernel) rfl
theorem bw_p9 : (Jvm.Cond.selects "Badgewood" ({ cls := "Badgewood", name := "moveUp", desc := "(LBadgewood$Child;)V" } : Jvm.MethodName) ({ cls := "Badgewood", name := "moveUp", desc := "(LBadgewood$Child;)V" } : Jvm.MethodName)) ∈ BW := bw_of 9 (by decide +kernel) rfl
theorem bw_p10 : (Jvm.Cond.selects "Badgewood" ({ cls := "Badgewood", name := "comeInOrWait", desc := "(LBadgewood$Child;LBadgewood$Troop;)I" } : Jvm.MethodName) ({ cls := "Badgewood", name := "comeInOrWait", desc := "(LBadgewood$Child;LBadgewood$Troop;)I" } : Jvm.MethodName)) ∈ BW := bw_of 10 (by decide +kernel) rfl
theorem bw_p11 : (Jvm.Cond.selects "Badgewood" ({ cls := "Badgewood", name := "waitingFor", desc := "(I)I" } : Jvm.MethodName) ({ cls := "Badgewood", name := "waitingFor", desc := "(I)I" } : Jvm.MethodName)) ∈ BW := bw_of 11 (by decide +kernel) rfl
theorem bw_p12 : (Jvm.Cond.selects "java/lang/Throwable" ({ cls := "java/lang/Throwable", name := "fillInStackTrace", desc := "(I)Ljava/lang/Throwable;" } : Jvm.MethodName) ({ cls := "java/lang/Throwable", name := "fillInStackTrace", desc := "(I)Ljava/lang/Throwable;" } : Jvm.MethodName)) ∈ BW := bw_of 12 (by decide +kernel) rfl
theorem bw_p13 : (Jvm.Cond.selects "java/util/ArrayList" ({ cls := "java/util/ArrayList", name := "add", desc := "(Ljava/lang/Object;[Ljava/lang/Object;I)V" } : Jvm.MethodName) ({ cls := "java/util/ArrayList", name := "add", desc := "(Ljava/lang/Object;[Ljava/lang/Object;I)V" } : Jvm.MethodName)) ∈ BW := bw_of 13 (by decide +kernel) rfl
theorem bw_p14 : (Jvm.Cond.selects "java/util/ArrayList" ({ cls := "java/util/ArrayList", name := "grow", desc := "()[Ljava/lang/Object;" } : Jvm.MethodName) ({ cls := "java/util/ArrayList", name := "grow", desc := "()[Ljava/lang/Object;" } : Jvm.MethodName)) ∈ BW := bw_of 14 (by decide +kernel) rfl
theorem bw_p15 : (Jvm.Cond.selects "java/util/ArrayList" ({ cls := "java/util/ArrayList", name := "grow", desc := "(I)[Ljava/lang/Object;" } : Jvm.MethodName) ({ cls := "java/util/ArrayList", name := "grow", desc := "(I)[Ljava/lang/Object;" } : Jvm.MethodName)) ∈ BW := bw_of 15 (by decide +kernel) rfl
theorem bw_p16 : (Jvm.Cond.selects "Badgewood" ({ cls := "Badgewood", name := "childAt", desc := "(I)LBadgewood$Child;" } : Jvm.MethodName) ({ cls := "Badgewood", name := "childAt", desc := "(I)LBadgewood$Child;" } : Jvm.MethodName)) ∈ BW := bw_of 16 (by decide +kernel) rfl
theorem bw_p17 : (Jvm.Cond.selects "Badgewood" ({ cls := "Badgewood", name := "troopAt", desc := "(I)LBadgewood$Troop;" } : Jvm.MethodName) ({ cls := "Badgewood", name := "troopAt", desc := "(I)LBadgewood$Troop;" } : Jvm.MethodName)) ∈ BW := bw_of 17 (by decide +kernel) rfl
theorem bw_p18 : (Jvm.Cond.selects "Badgewood" ({ cls := "Badgewood", name := "filledPatrols", desc := "(I)I" } : Jvm.MethodName) ({ cls := "Badgewood", name := "filledPatrols", desc := "(I)I" } : Jvm.MethodName)) ∈ BW := bw_of 18 (by decide +kernel) rfl
theorem bw_p19 : (Jvm.Cond.selects "Badgewood" ({ cls := "Badgewood", name := "filledPatrolAt", desc := "(II)I" } : Jvm.MethodName) ({ cls := "Badgewood", name := "filledPatrolAt", desc := "(II)I" } : Jvm.MethodName)) ∈ BW := bw_of 19 (by decide +kernel) rfl
theorem bw_p20 : (Jvm.Cond.selects "Badgewood" ({ cls := "Badgewood", name := "leaderAt", desc := "(I)LBadgewood$Leader;" } : Jvm.MethodName) ({ cls := "Badgewood", name := "leaderAt", desc := "(I)LBadgewood$Leader;" } : Jvm.MethodName)) ∈ BW := bw_of 20 (by decide +kernel) rfl
theorem bw_p21 : (Jvm.Cond.selects "Badgewood" ({ cls := "Badgewood", name := "badgeAt", desc := "(I)LBadgewood$Badge;" } : Jvm.MethodName) ({ cls := "Badgewood", name := "badgeAt", desc := "(I)LBadgewood$Badge;" } : Jvm.MethodName)) ∈ BW := bw_of 21 (by decide +kernel) rfl
theorem bw_p22 : (Jvm.Cond.selects "Badgewood$Child" ({ cls := "Badgewood$Child", name := "reckonBadges", desc := "()V" } : Jvm.MethodName) ({ cls := "Badgewood$Child", name := "reckonBadges", desc := "()V" } : Jvm.MethodName)) ∈ BW := bw_of 22 (by decide +kernel) rfl
theorem bw_p23 : (Jvm.Cond.selects "Badgewood$Child" ({ cls := "Badgewood$Child", name := "dayAfterBefore", desc := "(LBadgewood$Edition;)I" } : Jvm.MethodName) ({ cls := "Badgewood$Child", name := "dayAfterBefore", desc := "(LBadgewood$Edition;)I" } : Jvm.MethodName)) ∈ BW := bw_of 23 (by decide +kernel) rfl
theorem bw_p24 : (Jvm.Cond.selects "Badgewood$Child" ({ cls := "Badgewood$Child", name := "dayProven", desc := "(LBadgewood$Edition;)I" } : Jvm.MethodName) ({ cls := "Badgewood$Child", name := "dayProven", desc := "(LBadgewood$Edition;)I" } : Jvm.MethodName)) ∈ BW := bw_of 24 (by decide +kernel) rfl
theorem bw_p25 : (Jvm.Cond.selects "Badgewood" ({ cls := "Badgewood", name := "eventAt", desc := "(I)LBadgewood$Event;" } : Jvm.MethodName) ({ cls := "Badgewood", name := "eventAt", desc := "(I)LBadgewood$Event;" } : Jvm.MethodName)) ∈ BW := bw_of 25 (by decide +kernel) rfl
theorem bw_p26 : (Jvm.Cond.selects "Badgewood" ({ cls := "Badgewood", name := "isElsewhere", desc := "(LBadgewood$Event;I)Z" } : Jvm.MethodName) ({ cls := "Badgewood", name := "isElsewhere", desc := "(LBadgewood$Event;I)Z" } : Jvm.MethodName)) ∈ BW := bw_of 26 (by decide +kernel) rfl
theorem bw_p27 : (Jvm.Cond.selects "Badgewood" ({ cls := "Badgewood", name := "needOf", desc := "(LBadgewood$Event;)LBadgewood$Need;" } : Jvm.MethodName) ({ cls := "Badgewood", name := "needOf", desc := "(LBadgewood$Event;)LBadgewood$Need;" } : Jvm.MethodName)) ∈ BW := bw_of 27 (by decide +kernel) rfl
theorem bw_p28 : (Jvm.Cond.selects "Badgewood" ({ cls := "Badgewood", name := "eventsIn", desc := "(II)I" } : Jvm.MethodName) ({ cls := "Badgewood", name := "eventsIn", desc := "(II)I" } : Jvm.MethodName)) ∈ BW := bw_of 28 (by decide +kernel) rfl
theorem bw_p29 : (Jvm.Cond.selects "Badgewood" ({ cls := "Badgewood", name := "needsIn", desc := "(II)Ljava/util/ArrayList;" } : Jvm.MethodName) ({ cls := "Badgewood", name := "needsIn", desc := "(II)Ljava/util/ArrayList;" } : Jvm.MethodName)) ∈ BW := bw_of 29 (by decide +kernel) rfl
theorem bw_p30 : (Jvm.Cond.selects "BadgewoodModel" ({ cls := "BadgewoodModel", name := "asks", desc := "(Z)Z" } : Jvm.MethodName) ({ cls := "BadgewoodModel", name := "asks", desc := "(Z)Z" } : Jvm.MethodName)) ∈ BW := bw_of 30 (by decide +kernel) rfl
theorem bw_p31 : (Jvm.Cond.selects "BadgewoodModel" ({ cls := "BadgewoodModel", name := "fails", desc := "(I)I" } : Jvm.MethodName) ({ cls := "BadgewoodModel", name := "fails", desc := "(I)I" } : Jvm.MethodName)) ∈ BW := bw_of 31 (by decide +kernel) rfl
theorem bw_p32 : (Jvm.Cond.selects "BadgewoodModel" ({ cls := "BadgewoodModel", name := "isChild", desc := "(I)Z" } : Jvm.MethodName) ({ cls := "BadgewoodModel", name := "isChild", desc := "(I)Z" } : Jvm.MethodName)) ∈ BW := bw_of 32 (by decide +kernel) rfl
theorem bw_p33 : (Jvm.Cond.selects "BadgewoodModel" ({ cls := "BadgewoodModel", name := "isTroop", desc := "(I)Z" } : Jvm.MethodName) ({ cls := "BadgewoodModel", name := "isTroop", desc := "(I)Z" } : Jvm.MethodName)) ∈ BW := bw_of 33 (by decide +kernel) rfl
theorem bw_p34 : (Jvm.Cond.selects "BadgewoodModel" ({ cls := "BadgewoodModel", name := "isFor", desc := "(II)Z" } : Jvm.MethodName) ({ cls := "BadgewoodModel", name := "isFor", desc := "(II)Z" } : Jvm.MethodName)) ∈ BW := bw_of 34 (by decide +kernel) rfl
theorem bw_p35 : (Jvm.Cond.selects "BadgewoodModel" ({ cls := "BadgewoodModel", name := "joins", desc := "(II)I" } : Jvm.MethodName) ({ cls := "BadgewoodModel", name := "joins", desc := "(II)I" } : Jvm.MethodName)) ∈ BW := bw_of 35 (by decide +kernel) rfl
theorem bw_p36 : (Jvm.Cond.selects "BadgewoodModel" ({ cls := "BadgewoodModel", name := "inTroop", desc := "(I)I" } : Jvm.MethodName) ({ cls := "BadgewoodModel", name := "inTroop", desc := "(I)I" } : Jvm.MethodName)) ∈ BW := bw_of 36 (by decide +kernel) rfl
theorem bw_p37 : (Jvm.Cond.selects "BadgewoodModel" ({ cls := "BadgewoodModel", name := "comesIn", desc := "(II)V" } : Jvm.MethodName) ({ cls := "BadgewoodModel", name := "comesIn", desc := "(II)V" } : Jvm.MethodName)) ∈ BW := bw_of 37 (by decide +kernel) rfl
theorem bw_p38 : (Jvm.Cond.selects "BadgewoodModel" ({ cls := "BadgewoodModel", name := "inPatrol", desc := "(II)I" } : Jvm.MethodName) ({ cls := "BadgewoodModel", name := "inPatrol", desc := "(II)I" } : Jvm.MethodName)) ∈ BW := bw_of 38 (by decide +kernel) rfl
theorem bw_p39 : (Jvm.Cond.selects "BadgewoodModel" ({ cls := "BadgewoodModel", name := "waiting", desc := "(I)I" } : Jvm.MethodName) ({ cls := "BadgewoodModel", name := "waiting", desc := "(I)I" } : Jvm.MethodName)) ∈ BW := bw_of 39 (by decide +kernel) rfl
theorem bw_p40 : (Jvm.Cond.selects "BadgewoodModel" ({ cls := "BadgewoodModel", name := "goesOut", desc := "(I)V" } : Jvm.MethodName) ({ cls := "BadgewoodModel", name := "goesOut", desc := "(I)V" } : Jvm.MethodName)) ∈ BW := bw_of 40 (by decide +kernel) rfl
theorem bw_p41 : (Jvm.Cond.selects "BadgewoodModel" ({ cls := "BadgewoodModel", name := "firstWaiting", desc := "(I)I" } : Jvm.MethodName) ({ cls := "BadgewoodModel", name := "firstWaiting", desc := "(I)I" } : Jvm.MethodName)) ∈ BW := bw_of 41 (by decide +kernel) rfl
theorem bw_p42 : (Jvm.Cond.selects "BadgewoodModel" ({ cls := "BadgewoodModel", name := "joinsLowest", desc := "(I)V" } : Jvm.MethodName) ({ cls := "BadgewoodModel", name := "joinsLowest", desc := "(I)V" } : Jvm.MethodName)) ∈ BW := bw_of 42 (by decide +kernel) rfl
theorem bw_p43 : (Jvm.Cond.selects "BadgewoodModel" ({ cls := "BadgewoodModel", name := "isLeader", desc := "(I)Z" } : Jvm.MethodName) ({ cls := "BadgewoodModel", name := "isLeader", desc := "(I)Z" } : Jvm.MethodName)) ∈ BW := bw_of 43 (by decide +kernel) rfl
theorem bw_p44 : (Jvm.Cond.selects "BadgewoodModel" ({ cls := "BadgewoodModel", name := "isVetted", desc := "(III)Z" } : Jvm.MethodName) ({ cls := "BadgewoodModel", name := "isVetted", desc := "(III)Z" } : Jvm.MethodName)) ∈ BW := bw_of 44 (by decide +kernel) rfl
theorem bw_p45 : (Jvm.Cond.selects "BadgewoodModel" ({ cls := "BadgewoodModel", name := "earnedBy", desc := "(I)I" } : Jvm.MethodName) ({ cls := "BadgewoodModel", name := "earnedBy", desc := "(I)I" } : Jvm.MethodName)) ∈ BW := bw_of 45 (by decide +kernel) rfl
theorem bw_p46 : (Jvm.Cond.selects "BadgewoodModel" ({ cls := "BadgewoodModel", name := "findsDays", desc := "(I)V" } : Jvm.MethodName) ({ cls := "BadgewoodModel", name := "findsDays", desc := "(I)V" } : Jvm.MethodName)) ∈ BW := bw_of 46 (by decide +kernel) rfl
theorem bw_p47 : (Jvm.Cond.selects "BadgewoodModel" ({ cls := "BadgewoodModel", name := "provenOn", desc := "(II)I" } : Jvm.MethodName) ({ cls := "BadgewoodModel", name := "provenOn", desc := "(II)I" } : Jvm.MethodName)) ∈ BW := bw_of 47 (by decide +kernel) rfl
theorem bw_p48 : (Jvm.Cond.selects "BadgewoodModel" ({ cls := "BadgewoodModel", name := "dayOfMany", desc := "(III)I" } : Jvm.MethodName) ({ cls := "BadgewoodModel", name := "dayOfMany", desc := "(III)I" } : Jvm.MethodName)) ∈ BW := bw_of 48 (by decide +kernel) rfl
theorem bw_p49 : (Jvm.Cond.selects "BadgewoodModel" ({ cls := "BadgewoodModel", name := "isEvent", desc := "(I)Z" } : Jvm.MethodName) ({ cls := "BadgewoodModel", name := "isEvent", desc := "(I)Z" } : Jvm.MethodName)) ∈ BW := bw_of 49 (by decide +kernel) rfl
theorem bw_p50 : (Jvm.Cond.selects "BadgewoodModel" ({ cls := "BadgewoodModel", name := "meet", desc := "(II)Z" } : Jvm.MethodName) ({ cls := "BadgewoodModel", name := "meet", desc := "(II)Z" } : Jvm.MethodName)) ∈ BW := bw_of 50 (by decide +kernel) rfl
theorem bw_p51 : (Jvm.Cond.selects "BadgewoodModel" ({ cls := "BadgewoodModel", name := "reason", desc := "(II)I" } : Jvm.MethodName) ({ cls := "BadgewoodModel", name := "reason", desc := "(II)I" } : Jvm.MethodName)) ∈ BW := bw_of 51 (by decide +kernel) rfl
theorem bw_p52 : (Jvm.Cond.selects "BadgewoodModel" ({ cls := "BadgewoodModel", name := "areLawful", desc := "(III)Z" } : Jvm.MethodName) ({ cls := "BadgewoodModel", name := "areLawful", desc := "(III)Z" } : Jvm.MethodName)) ∈ BW := bw_of 52 (by decide +kernel) rfl
theorem kwX0 : ∀ w ∈ u_ws RX0 TX0 1, w ∈ BW := bw_all [125] (by decide +kernel) (by decide +kernel)
theorem kwX1 : ∀ w ∈ u_ws RX1 TX1 14, w ∈ BW := bw_all [458, 460, 462, 464, 466, 468, 470, 472, 474, 476, 478, 480, 482, 484] (by decide +kernel) (by decide +kernel)
theorem kwX2 : ∀ w ∈ u_ws RX2 TX2 3, w ∈ BW := bw_all [699, 701, 703] (by decide +kernel) (by decide +kernel)
theorem kwX3 : ∀ w ∈ u_ws RX3 TX3 6, w ∈ BW := bw_all [659, 661, 663, 665, 667, 669] (by decide +kernel) (by decide +kernel)
theorem kwX4 : ∀ w ∈ u_ws RX4 TX4 7, w ∈ BW := bw_all [779, 781, 783, 785, 787, 789, 791] (by decide +kernel) (by decide +kernel)
theorem kwX5 : ∀ w ∈ u_ws RX5 TX5 4, w ∈ BW := bw_all [581, 583, 585, 587] (by decide +kernel) (by decide +kernel)
theorem kwX6 : ∀ w ∈ u_ws RX6 TX6 5, w ∈ BW := bw_all [850, 852, 854, 856, 858] (by decide +kernel) (by decide +kernel)
theorem kwX7 : ∀ w ∈ u_ws RX7 TX7 4, w ∈ BW := bw_all [353, 355, 357, 359] (by decide +kernel) (by decide +kernel)
theorem kwX8 : ∀ w ∈ u_ws RX8 TX8 7, w ∈ BW := bw_all [135, 137, 139, 141, 143, 145, 147] (by decide +kernel) (by decide +kernel)
theorem kwX9 : ∀ w ∈ u_ws RX9 TX9 32, w ∈ BW := bw_all [993, 995, 997, 999, 1001, 1003, 1005, 1007, 1009, 1011, 1013, 1015, 1017, 1019, 1021, 1023, 1025, 1027, 1029, 1031, 1033, 1035, 1037, 1039, 1041, 1043, 1045, 1047, 1049, 1051, 1053, 1055] (by decide +kernel) (by decide +kernel)
theorem kwJx4a65c : ∀ w ∈ u_ws RJx4a65c TJx4a65c 3, w ∈ BW := bw_all [111, 107, 109] (by decide +kernel) (by decide +kernel)
def STRS : List (String × Nat × String) := [("Badgewood", 303, "an argument is out of its range"), ("Badgewood", 305, "there are as many as there may be"), ("Badgewood", 300, "there is none of this number"), ("Badgewood", 80, "the child is in a troop or waits for one"), ("Badgewood", 92, "the troop is not for the age of the child"), ("Badgewood", 98, "the child is in no troop and waits for none"), ("Badgewood", 107, "the child is in no troop"), ("Badgewood", 122, "there are no days left"), ("Badgewood", 177, "both sets have a skill in common"), ("Badgewood", 188, "the badge has no edition"), ("Badgewood", 194, "the badge was begun"), ("Badgewood", 208, "the leader is vetted for no land today"), ("Badgewood", 210, "the leader does not teach the skill"), ("Badgewood", 215, "the skill was proven"), ("Badgewood", 234, "the leader is at another event then"), ("Badgewood", 250, "too many events go on"), ("Badgewood", 266, "the child owes to another troop"), ("Badgewood", 271, "the child would have taken too many boxes"), ("Badgewood", 273, "the child owes fewer coins"), ("Badgewood", 275, "there is no such thing to tell of a child"), ("Badgewood", 289, "the badge was not begun")]
