def BW : List Cond := lw_tbl.filter goodWord
def nwk : Cond → Bool
  | .castable _ _ => true
  | .declares _ => true
  | .methodLinkNest _ _ _ _ => true
  | .arrayOver (.object _) => true
  | _ => false
def NW : List Cond := lw_tbl.filter nwk
theorem bw_of {w : Cond} (i : Nat) (h : lw_tbl[i]? = some w) (g : goodWord w = true) : w ∈ BW := List.mem_filter.mpr ⟨List.mem_of_getElem? h, g⟩
theorem nw_of {w : Cond} (i : Nat) (h : lw_tbl[i]? = some w) (g : nwk w = true) : w ∈ NW := List.mem_filter.mpr ⟨List.mem_of_getElem? h, g⟩
theorem bw_all {ws : List Cond} (ps : List Nat) (hp : ws = ps.filterMap (fun i => lw_tbl[i]?)) (h : ws.all goodWord = true) : ∀ w ∈ ws, w ∈ BW := by
  intro w hw
  have h1 := List.all_eq_true.mp h w hw
  rw [hp] at hw
  obtain ⟨i, -, hi⟩ := List.mem_filterMap.mp hw
  exact bw_of i hi h1
theorem tb_1 {w : Cond} (h : w ∈ tables_1_1) : w ∈ lw_tbl := List.mem_append.mpr (Or.inr (show w ∈ tables_1_1 ++ (tables_1_2 ++ (tables_1_3 ++ tables_1_4)) from List.mem_append.mpr (Or.inl h)))
theorem tb_2 {w : Cond} (h : w ∈ tables_1_2) : w ∈ lw_tbl := List.mem_append.mpr (Or.inr (show w ∈ tables_1_1 ++ (tables_1_2 ++ (tables_1_3 ++ tables_1_4)) from List.mem_append.mpr (Or.inr (List.mem_append.mpr (Or.inl h)))))
theorem tb_3 {w : Cond} (h : w ∈ tables_1_3) : w ∈ lw_tbl := List.mem_append.mpr (Or.inr (show w ∈ tables_1_1 ++ (tables_1_2 ++ (tables_1_3 ++ tables_1_4)) from List.mem_append.mpr (Or.inr (List.mem_append.mpr (Or.inr (List.mem_append.mpr (Or.inl h)))))))
theorem tb_4 {w : Cond} (h : w ∈ tables_1_4) : w ∈ lw_tbl := List.mem_append.mpr (Or.inr (show w ∈ tables_1_1 ++ (tables_1_2 ++ (tables_1_3 ++ tables_1_4)) from List.mem_append.mpr (Or.inr (List.mem_append.mpr (Or.inr (List.mem_append.mpr (Or.inr h)))))))
theorem bw_0 : (Jvm.Cond.initialized "BadgewoodLaw") ∈ BW := bw_of 30 (by decide +kernel) rfl
theorem bw_1 : (Jvm.Cond.initialized "Badgewood") ∈ BW := bw_of 31 (by decide +kernel) rfl
theorem bw_2 : (Jvm.Cond.initialized "java/util/AbstractCollection") ∈ BW := bw_of 32 (by decide +kernel) rfl
theorem bw_3 : (Jvm.Cond.initialized "java/util/AbstractList") ∈ BW := bw_of 33 (by decide +kernel) rfl
theorem bw_4 : (Jvm.Cond.initialized "java/util/ArrayList") ∈ BW := bw_of 34 (by decide +kernel) rfl
theorem bw_5 : (Jvm.Cond.initialized "Badgewood$Badge") ∈ BW := bw_of 35 (by decide +kernel) rfl
theorem bw_6 : (Jvm.Cond.initialized "java/lang/Throwable") ∈ BW := bw_of 36 (by decide +kernel) rfl
theorem bw_7 : (Jvm.Cond.initialized "java/lang/Exception") ∈ BW := bw_of 37 (by decide +kernel) rfl
theorem bw_8 : (Jvm.Cond.initialized "java/lang/RuntimeException") ∈ BW := bw_of 38 (by decide +kernel) rfl
theorem bw_9 : (Jvm.Cond.initialized "java/lang/IllegalArgumentException") ∈ BW := bw_of 39 (by decide +kernel) rfl
theorem bw_10 : (Jvm.Cond.initialized "java/lang/IllegalStateException") ∈ BW := bw_of 40 (by decide +kernel) rfl
theorem bw_11 : (Jvm.Cond.initialized "Badgewood$Troop") ∈ BW := bw_of 41 (by decide +kernel) rfl
theorem bw_12 : (Jvm.Cond.initialized "jdk/internal/util/ArraysSupport") ∈ BW := bw_of 42 (by decide +kernel) rfl
theorem bw_13 : (Jvm.Cond.initialized "java/lang/Math") ∈ BW := bw_of 43 (by decide +kernel) rfl
theorem bw_14 : (Jvm.Cond.initialized "java/util/Arrays") ∈ BW := bw_of 44 (by decide +kernel) rfl
theorem bw_15 : (Jvm.Cond.initialized "java/lang/System") ∈ BW := bw_of 45 (by decide +kernel) rfl
theorem bw_16 : (Jvm.Cond.initialized "Badgewood$Child") ∈ BW := bw_of 46 (by decide +kernel) rfl
theorem bw_17 : (Jvm.Cond.initialized "java/lang/IndexOutOfBoundsException") ∈ BW := bw_of 47 (by decide +kernel) rfl
theorem bw_18 : (Jvm.Cond.initialized "java/util/Objects") ∈ BW := bw_of 48 (by decide +kernel) rfl
theorem bw_19 : (Jvm.Cond.initialized "jdk/internal/util/Preconditions") ∈ BW := bw_of 49 (by decide +kernel) rfl
theorem bw_20 : (Jvm.Cond.initialized "java/lang/Integer") ∈ BW := bw_of 50 (by decide +kernel) rfl
theorem bw_21 : (Jvm.Cond.initialized "Badgewood$Leader") ∈ BW := bw_of 51 (by decide +kernel) rfl
theorem bw_22 : (Jvm.Cond.initialized "Badgewood$Course") ∈ BW := bw_of 52 (by decide +kernel) rfl
theorem bw_23 : (Jvm.Cond.initialized "Badgewood$Need") ∈ BW := bw_of 53 (by decide +kernel) rfl
theorem bw_24 : (Jvm.Cond.initialized "Badgewood$Edition") ∈ BW := bw_of 54 (by decide +kernel) rfl
theorem bw_25 : (Jvm.Cond.initialized "Badgewood$Event") ∈ BW := bw_of 55 (by decide +kernel) rfl
theorem bw_26 : (Jvm.Cond.classLink "BadgewoodLaw" (25 : Nat) "Badgewood") ∈ BW := bw_of 56 (by decide +kernel) rfl
theorem bw_27 : (Jvm.Cond.instantiable "Badgewood" (7 : Nat)) ∈ BW := bw_of 57 (by decide +kernel) rfl
theorem bw_28 : (Jvm.Cond.methodLink "BadgewoodLaw" (153 : Nat) ({ cls := "Badgewood", name := "<init>", desc := "()V" } : Jvm.MethodName)) ∈ BW := bw_of 58 (by decide +kernel) rfl
theorem bw_29 : (Jvm.Cond.instanceMethod ({ cls := "Badgewood", name := "<init>", desc := "()V" } : Jvm.MethodName)) ∈ BW := bw_of 59 (by decide +kernel) rfl
theorem bw_30 : (Jvm.Cond.code ({ cls := "Badgewood", name := "<init>", desc := "()V" } : Jvm.MethodName) prog_1_method_1_code (2 : Nat) (Option.none : Option Jvm.ClassFile.FieldType)) ∈ BW := bw_of 60 (by decide +kernel) rfl
theorem bw_31 : (Jvm.Cond.methodLink "Badgewood" (1 : Nat) ({ cls := "java/lang/Object", name := "<init>", desc := "()V" } : Jvm.MethodName)) ∈ BW := bw_of 61 (by decide +kernel) rfl
theorem bw_32 : (Jvm.Cond.instanceMethod ({ cls := "java/lang/Object", name := "<init>", desc := "()V" } : Jvm.MethodName)) ∈ BW := bw_of 62 (by decide +kernel) rfl
theorem bw_33 : (Jvm.Cond.code ({ cls := "java/lang/Object", name := "<init>", desc := "()V" } : Jvm.MethodName) object_method_1_code (1 : Nat) (Option.none : Option Jvm.ClassFile.FieldType)) ∈ BW := bw_of 63 (by decide +kernel) rfl
theorem bw_34 : (Jvm.Cond.classLink "Badgewood" (7 : Nat) "java/util/ArrayList") ∈ BW := bw_of 64 (by decide +kernel) rfl
theorem bw_35 : (Jvm.Cond.instantiable "java/util/ArrayList" (3 : Nat)) ∈ BW := bw_of 65 (by decide +kernel) rfl
theorem bw_36 : (Jvm.Cond.methodLink "Badgewood" (9 : Nat) ({ cls := "java/util/ArrayList", name := "<init>", desc := "()V" } : Jvm.MethodName)) ∈ BW := bw_of 66 (by decide +kernel) rfl
theorem bw_37 : (Jvm.Cond.instanceMethod ({ cls := "java/util/ArrayList", name := "<init>", desc := "()V" } : Jvm.MethodName)) ∈ BW := bw_of 67 (by decide +kernel) rfl
theorem bw_38 : (Jvm.Cond.code ({ cls := "java/util/ArrayList", name := "<init>", desc := "()V" } : Jvm.MethodName) prog_27_method_2_code (1 : Nat) (Option.none : Option Jvm.ClassFile.FieldType)) ∈ BW := bw_of 68 (by decide +kernel) rfl
theorem bw_39 : (Jvm.Cond.methodLink "java/util/ArrayList" (1 : Nat) ({ cls := "java/util/AbstractList", name := "<init>", desc := "()V" } : Jvm.MethodName)) ∈ BW := bw_of 69 (by decide +kernel) rfl
theorem bw_40 : (Jvm.Cond.instanceMethod ({ cls := "java/util/AbstractList", name := "<init>", desc := "()V" } : Jvm.MethodName)) ∈ BW := bw_of 70 (by decide +kernel) rfl
theorem bw_41 : (Jvm.Cond.code ({ cls := "java/util/AbstractList", name := "<init>", desc := "()V" } : Jvm.MethodName) prog_26_method_1_code (1 : Nat) (Option.none : Option Jvm.ClassFile.FieldType)) ∈ BW := bw_of 71 (by decide +kernel) rfl
theorem bw_42 : (Jvm.Cond.methodLink "java/util/AbstractList" (1 : Nat) ({ cls := "java/util/AbstractCollection", name := "<init>", desc := "()V" } : Jvm.MethodName)) ∈ BW := bw_of 72 (by decide +kernel) rfl
theorem bw_43 : (Jvm.Cond.instanceMethod ({ cls := "java/util/AbstractCollection", name := "<init>", desc := "()V" } : Jvm.MethodName)) ∈ BW := bw_of 73 (by decide +kernel) rfl
theorem bw_44 : (Jvm.Cond.code ({ cls := "java/util/AbstractCollection", name := "<init>", desc := "()V" } : Jvm.MethodName) prog_25_method_1_code (1 : Nat) (Option.none : Option Jvm.ClassFile.FieldType)) ∈ BW := bw_of 74 (by decide +kernel) rfl
theorem bw_45 : (Jvm.Cond.methodLink "java/util/AbstractCollection" (1 : Nat) ({ cls := "java/lang/Object", name := "<init>", desc := "()V" } : Jvm.MethodName)) ∈ BW := bw_of 75 (by decide +kernel) rfl
theorem bw_46 : (Jvm.Cond.fieldLink "java/util/ArrayList" (39 : Nat) "java/util/ArrayList" "DEFAULTCAPACITY_EMPTY_ELEMENTDATA" "[Ljava/lang/Object;") ∈ BW := bw_of 76 (by decide +kernel) rfl
theorem bw_48 : (Jvm.Cond.fieldLink "java/util/ArrayList" (9 : Nat) "java/util/ArrayList" "elementData" "[Ljava/lang/Object;") ∈ BW := bw_of 78 (by decide +kernel) rfl
theorem bw_49 : (Jvm.Cond.fieldLink "java/util/ArrayList" (48 : Nat) "java/util/ArrayList" "size" "I") ∈ BW := bw_of 79 (by decide +kernel) rfl
theorem bw_50 : (Jvm.Cond.fieldLink "java/util/AbstractList" (7 : Nat) "java/util/AbstractList" "modCount" "I") ∈ BW := bw_of 80 (by decide +kernel) rfl
theorem bw_51 : (Jvm.Cond.fieldLink "java/util/ArrayList" (63 : Nat) "java/util/ArrayList" "modCount" "I") ∈ BW := bw_of 81 (by decide +kernel) rfl
theorem bw_52 : (Jvm.Cond.sameField "java/util/ArrayList" "java/util/AbstractList" "modCount" "I") ∈ BW := bw_of 82 (by decide +kernel) rfl
theorem bw_60 : (Jvm.Cond.classLink "Badgewood" (25 : Nat) "Badgewood$Badge") ∈ BW := bw_of 90 (by decide +kernel) rfl
theorem nw_61 : (Jvm.Cond.arrayOver (Jvm.ClassFile.FieldType.object "Badgewood$Badge")) ∈ NW := nw_of 91 (by decide +kernel) rfl
theorem bw_62 : (Jvm.Cond.instantiable "Badgewood$Badge" (1 : Nat)) ∈ BW := bw_of 92 (by decide +kernel) rfl
theorem nw_63 : (Jvm.Cond.methodLinkNest "Badgewood" (31 : Nat) ({ cls := "Badgewood$Badge", name := "<init>", desc := "()V" } : Jvm.MethodName) "Badgewood") ∈ NW := nw_of 93 (by decide +kernel) rfl
theorem bw_64 : (Jvm.Cond.instanceMethod ({ cls := "Badgewood$Badge", name := "<init>", desc := "()V" } : Jvm.MethodName)) ∈ BW := bw_of 94 (by decide +kernel) rfl
theorem bw_65 : (Jvm.Cond.code ({ cls := "Badgewood$Badge", name := "<init>", desc := "()V" } : Jvm.MethodName) prog_2_method_1_code (1 : Nat) (Option.none : Option Jvm.ClassFile.FieldType)) ∈ BW := bw_of 95 (by decide +kernel) rfl
theorem bw_66 : (Jvm.Cond.methodLink "Badgewood$Badge" (1 : Nat) ({ cls := "java/lang/Object", name := "<init>", desc := "()V" } : Jvm.MethodName)) ∈ BW := bw_of 96 (by decide +kernel) rfl
theorem bw_67 : (Jvm.Cond.classLink "Badgewood$Badge" (7 : Nat) "java/util/ArrayList") ∈ BW := bw_of 97 (by decide +kernel) rfl
theorem bw_68 : (Jvm.Cond.methodLink "Badgewood$Badge" (9 : Nat) ({ cls := "java/util/ArrayList", name := "<init>", desc := "()V" } : Jvm.MethodName)) ∈ BW := bw_of 98 (by decide +kernel) rfl
theorem bw_69 : (Jvm.Cond.fieldLink "Badgewood$Badge" (10 : Nat) "Badgewood$Badge" "editions" "Ljava/util/ArrayList;") ∈ BW := bw_of 99 (by decide +kernel) rfl
theorem bw_70 : (Jvm.Cond.fieldLink "Badgewood" (180 : Nat) "Badgewood$Badge" "editions" "Ljava/util/ArrayList;") ∈ BW := bw_of 100 (by decide +kernel) rfl
theorem bw_74 : (Jvm.Cond.fieldLink "Badgewood" (10 : Nat) "Badgewood" "troops" "Ljava/util/ArrayList;") ∈ BW := bw_of 104 (by decide +kernel) rfl
theorem bw_75 : (Jvm.Cond.fieldLink "Badgewood" (16 : Nat) "Badgewood" "children" "Ljava/util/ArrayList;") ∈ BW := bw_of 105 (by decide +kernel) rfl
theorem bw_76 : (Jvm.Cond.fieldLink "Badgewood" (19 : Nat) "Badgewood" "leaders" "Ljava/util/ArrayList;") ∈ BW := bw_of 106 (by decide +kernel) rfl
theorem bw_77 : (Jvm.Cond.fieldLink "Badgewood" (22 : Nat) "Badgewood" "events" "Ljava/util/ArrayList;") ∈ BW := bw_of 107 (by decide +kernel) rfl
theorem bw_78 : (Jvm.Cond.fieldLink "Badgewood" (27 : Nat) "Badgewood" "badges" "[LBadgewood$Badge;") ∈ BW := bw_of 108 (by decide +kernel) rfl
theorem bw_79 : (Jvm.Cond.fieldLink "Badgewood" (32 : Nat) "Badgewood" "now" "I") ∈ BW := bw_of 109 (by decide +kernel) rfl
theorem bw_80 : (Jvm.Cond.fieldLink "Badgewood" (36 : Nat) "Badgewood" "nextTicket" "I") ∈ BW := bw_of 110 (by decide +kernel) rfl
theorem bw_96 : (Jvm.Cond.methodLink "BadgewoodLaw" (154 : Nat) ({ cls := "BadgewoodLaw", name := "cell", desc := "([II)I" } : Jvm.MethodName)) ∈ BW := bw_of 126 (by decide +kernel) rfl
theorem bw_97 : (Jvm.Cond.static ({ cls := "BadgewoodLaw", name := "cell", desc := "([II)I" } : Jvm.MethodName)) ∈ BW := bw_of 127 (by decide +kernel) rfl
theorem bw_98 : (Jvm.Cond.code ({ cls := "BadgewoodLaw", name := "cell", desc := "([II)I" } : Jvm.MethodName) method_2_code (3 : Nat) (Option.some Jvm.ClassFile.FieldType.int)) ∈ BW := bw_of 128 (by decide +kernel) rfl
theorem bw_99 : (Jvm.Cond.constant "BadgewoodLaw" (7 : Nat) (91171 : Int32)) ∈ BW := bw_of 129 (by decide +kernel) rfl
theorem bw_100 : (Jvm.Cond.constant "BadgewoodLaw" (8 : Nat) (1014072123 : Int32)) ∈ BW := bw_of 130 (by decide +kernel) rfl
theorem bw_101 : (Jvm.Cond.methodLink "BadgewoodLaw" (135 : Nat) ({ cls := "BadgewoodLaw", name := "some", desc := "(II)I" } : Jvm.MethodName)) ∈ BW := bw_of 131 (by decide +kernel) rfl
theorem bw_102 : (Jvm.Cond.static ({ cls := "BadgewoodLaw", name := "some", desc := "(II)I" } : Jvm.MethodName)) ∈ BW := bw_of 132 (by decide +kernel) rfl
theorem bw_103 : (Jvm.Cond.code ({ cls := "BadgewoodLaw", name := "some", desc := "(II)I" } : Jvm.MethodName) method_3_code (2 : Nat) (Option.some Jvm.ClassFile.FieldType.int)) ∈ BW := bw_of 133 (by decide +kernel) rfl
theorem bw_104 : (Jvm.Cond.methodLink "BadgewoodLaw" (149 : Nat) ({ cls := "BadgewoodLaw", name := "all", desc := "(LBadgewood;[I)J" } : Jvm.MethodName)) ∈ BW := bw_of 134 (by decide +kernel) rfl
theorem bw_105 : (Jvm.Cond.static ({ cls := "BadgewoodLaw", name := "all", desc := "(LBadgewood;[I)J" } : Jvm.MethodName)) ∈ BW := bw_of 135 (by decide +kernel) rfl
set_option maxRecDepth 100000 in
set_option maxHeartbeats 4000000 in
theorem bw_106 : (Jvm.Cond.code ({ cls := "BadgewoodLaw", name := "all", desc := "(LBadgewood;[I)J" } : Jvm.MethodName) method_8_code (6 : Nat) (Option.some Jvm.ClassFile.FieldType.long)) ∈ BW := List.mem_filter.mpr ⟨tb_1 (List.mem_of_getElem? (i := 106) rfl), rfl⟩
theorem bw_107 : (Jvm.Cond.constantLong "BadgewoodLaw" (118 : Nat) (17 : Int64)) ∈ BW := bw_of 137 (by decide +kernel) rfl
theorem bw_108 : (Jvm.Cond.methodLink "BadgewoodLaw" (120 : Nat) ({ cls := "Badgewood", name := "today", desc := "()I" } : Jvm.MethodName)) ∈ BW := bw_of 138 (by decide +kernel) rfl
theorem bw_109 : (Jvm.Cond.instanceMethod ({ cls := "Badgewood", name := "today", desc := "()I" } : Jvm.MethodName)) ∈ BW := bw_of 139 (by decide +kernel) rfl
theorem bw_110 : (Jvm.Cond.selects "Badgewood" ({ cls := "Badgewood", name := "today", desc := "()I" } : Jvm.MethodName) ({ cls := "Badgewood", name := "today", desc := "()I" } : Jvm.MethodName)) ∈ BW := bw_of 140 (by decide +kernel) rfl
theorem bw_111 : (Jvm.Cond.code ({ cls := "Badgewood", name := "today", desc := "()I" } : Jvm.MethodName) prog_1_method_24_code (1 : Nat) (Option.some Jvm.ClassFile.FieldType.int)) ∈ BW := bw_of 141 (by decide +kernel) rfl
theorem bw_112 : (Jvm.Cond.constantLong "BadgewoodLaw" (123 : Nat) (1009 : Int64)) ∈ BW := bw_of 142 (by decide +kernel) rfl
theorem bw_113 : (Jvm.Cond.methodLink "BadgewoodLaw" (93 : Nat) ({ cls := "Badgewood", name := "ofChild", desc := "(II)I" } : Jvm.MethodName)) ∈ BW := bw_of 143 (by decide +kernel) rfl
theorem bw_114 : (Jvm.Cond.instanceMethod ({ cls := "Badgewood", name := "ofChild", desc := "(II)I" } : Jvm.MethodName)) ∈ BW := bw_of 144 (by decide +kernel) rfl
theorem bw_115 : (Jvm.Cond.selects "Badgewood" ({ cls := "Badgewood", name := "ofChild", desc := "(II)I" } : Jvm.MethodName) ({ cls := "Badgewood", name := "ofChild", desc := "(II)I" } : Jvm.MethodName)) ∈ BW := bw_of 145 (by decide +kernel) rfl
theorem bw_116 : (Jvm.Cond.code ({ cls := "Badgewood", name := "ofChild", desc := "(II)I" } : Jvm.MethodName) prog_1_method_25_code (4 : Nat) (Option.some Jvm.ClassFile.FieldType.int)) ∈ BW := bw_of 146 (by decide +kernel) rfl
theorem bw_117 : (Jvm.Cond.methodLink "Badgewood" (64 : Nat) ({ cls := "Badgewood", name := "childAt", desc := "(I)LBadgewood$Child;" } : Jvm.MethodName)) ∈ BW := bw_of 147 (by decide +kernel) rfl
theorem bw_119 : (Jvm.Cond.instanceMethod ({ cls := "Badgewood", name := "childAt", desc := "(I)LBadgewood$Child;" } : Jvm.MethodName)) ∈ BW := bw_of 149 (by decide +kernel) rfl
theorem bw_120 : (Jvm.Cond.code ({ cls := "Badgewood", name := "childAt", desc := "(I)LBadgewood$Child;" } : Jvm.MethodName) prog_1_method_34_code (2 : Nat) (Option.some (Jvm.ClassFile.FieldType.object "Badgewood$Child"))) ∈ BW := bw_of 150 (by decide +kernel) rfl
theorem bw_121 : (Jvm.Cond.methodLink "Badgewood" (43 : Nat) ({ cls := "java/util/ArrayList", name := "size", desc := "()I" } : Jvm.MethodName)) ∈ BW := bw_of 151 (by decide +kernel) rfl
theorem bw_122 : (Jvm.Cond.instanceMethod ({ cls := "java/util/ArrayList", name := "size", desc := "()I" } : Jvm.MethodName)) ∈ BW := bw_of 152 (by decide +kernel) rfl
theorem bw_123 : (Jvm.Cond.selects "java/util/ArrayList" ({ cls := "java/util/ArrayList", name := "size", desc := "()I" } : Jvm.MethodName) ({ cls := "java/util/ArrayList", name := "size", desc := "()I" } : Jvm.MethodName)) ∈ BW := bw_of 153 (by decide +kernel) rfl
theorem bw_124 : (Jvm.Cond.code ({ cls := "java/util/ArrayList", name := "size", desc := "()I" } : Jvm.MethodName) prog_27_method_8_code (1 : Nat) (Option.some Jvm.ClassFile.FieldType.int)) ∈ BW := bw_of 154 (by decide +kernel) rfl
theorem bw_125 : (Jvm.Cond.methodLink "Badgewood" (155 : Nat) ({ cls := "Badgewood", name := "requireIndex", desc := "(II)V" } : Jvm.MethodName)) ∈ BW := bw_of 155 (by decide +kernel) rfl
theorem bw_126 : (Jvm.Cond.static ({ cls := "Badgewood", name := "requireIndex", desc := "(II)V" } : Jvm.MethodName)) ∈ BW := bw_of 156 (by decide +kernel) rfl
theorem bw_127 : (Jvm.Cond.code ({ cls := "Badgewood", name := "requireIndex", desc := "(II)V" } : Jvm.MethodName) prog_1_method_30_code (2 : Nat) (Option.none : Option Jvm.ClassFile.FieldType)) ∈ BW := bw_of 157 (by decide +kernel) rfl
theorem bw_128 : (Jvm.Cond.classLink "Badgewood" (298 : Nat) "java/lang/IndexOutOfBoundsException") ∈ BW := bw_of 158 (by decide +kernel) rfl
theorem bw_129 : (Jvm.Cond.instantiable "java/lang/IndexOutOfBoundsException" (6 : Nat)) ∈ BW := bw_of 159 (by decide +kernel) rfl
theorem nw_130 : (Jvm.Cond.castable "java/lang/IndexOutOfBoundsException" "java/lang/IndexOutOfBoundsException") ∈ NW := nw_of 160 (by decide +kernel) rfl
theorem nw_131 : (Jvm.Cond.declares ({ cls := "java/lang/RuntimeException", name := "<init>", desc := "()V" } : Jvm.MethodName)) ∈ NW := nw_of 161 (by decide +kernel) rfl
theorem nw_132 : (Jvm.Cond.declares ({ cls := "java/lang/RuntimeException", name := "<init>", desc := "(Ljava/lang/String;)V" } : Jvm.MethodName)) ∈ NW := nw_of 162 (by decide +kernel) rfl
theorem nw_133 : (Jvm.Cond.declares ({ cls := "java/lang/Exception", name := "<init>", desc := "()V" } : Jvm.MethodName)) ∈ NW := nw_of 163 (by decide +kernel) rfl
theorem nw_134 : (Jvm.Cond.declares ({ cls := "java/lang/Exception", name := "<init>", desc := "(Ljava/lang/String;)V" } : Jvm.MethodName)) ∈ NW := nw_of 164 (by decide +kernel) rfl
theorem nw_135 : (Jvm.Cond.declares ({ cls := "java/lang/Throwable", name := "<init>", desc := "()V" } : Jvm.MethodName)) ∈ NW := nw_of 165 (by decide +kernel) rfl
theorem nw_136 : (Jvm.Cond.declares ({ cls := "java/lang/Throwable", name := "<init>", desc := "(Ljava/lang/String;)V" } : Jvm.MethodName)) ∈ NW := nw_of 166 (by decide +kernel) rfl
theorem bw_137 : (Jvm.Cond.selects "java/lang/IndexOutOfBoundsException" ({ cls := "java/lang/Throwable", name := "fillInStackTrace", desc := "(I)Ljava/lang/Throwable;" } : Jvm.MethodName) ({ cls := "java/lang/Throwable", name := "fillInStackTrace", desc := "(I)Ljava/lang/Throwable;" } : Jvm.MethodName)) ∈ BW := bw_of 167 (by decide +kernel) rfl
theorem bw_138 : (Jvm.Cond.selects "java/lang/IndexOutOfBoundsException" ({ cls := "java/lang/Throwable", name := "fillInStackTrace", desc := "()Ljava/lang/Throwable;" } : Jvm.MethodName) ({ cls := "java/lang/Throwable", name := "fillInStackTrace", desc := "()Ljava/lang/Throwable;" } : Jvm.MethodName)) ∈ BW := bw_of 168 (by decide +kernel) rfl
theorem bw_149 : (Jvm.Cond.fieldLink "java/lang/Throwable" (198 : Nat) "java/lang/Throwable" "backtrace" "Ljava/lang/Object;") ∈ BW := bw_of 179 (by decide +kernel) rfl
theorem bw_151 : (Jvm.Cond.instanceMethod ({ cls := "java/lang/Throwable", name := "<init>", desc := "()V" } : Jvm.MethodName)) ∈ BW := bw_of 181 (by decide +kernel) rfl
theorem bw_152 : (Jvm.Cond.code ({ cls := "java/lang/Throwable", name := "<init>", desc := "()V" } : Jvm.MethodName) prog_24_method_1_code (1 : Nat) (Option.none : Option Jvm.ClassFile.FieldType)) ∈ BW := bw_of 182 (by decide +kernel) rfl
theorem bw_153 : (Jvm.Cond.methodLink "java/lang/Throwable" (1 : Nat) ({ cls := "java/lang/Object", name := "<init>", desc := "()V" } : Jvm.MethodName)) ∈ BW := bw_of 183 (by decide +kernel) rfl
theorem bw_154 : (Jvm.Cond.fieldLink "java/lang/Throwable" (13 : Nat) "java/lang/Throwable" "UNASSIGNED_STACK" "[Ljava/lang/StackTraceElement;") ∈ BW := bw_of 184 (by decide +kernel) rfl
theorem bw_156 : (Jvm.Cond.fieldLink "java/lang/Throwable" (20 : Nat) "java/lang/Throwable" "SUPPRESSED_SENTINEL" "Ljava/util/List;") ∈ BW := bw_of 186 (by decide +kernel) rfl
theorem bw_158 : (Jvm.Cond.methodLink "java/lang/Throwable" (27 : Nat) ({ cls := "java/lang/Throwable", name := "fillInStackTrace", desc := "()Ljava/lang/Throwable;" } : Jvm.MethodName)) ∈ BW := bw_of 188 (by decide +kernel) rfl
theorem bw_159 : (Jvm.Cond.instanceMethod ({ cls := "java/lang/Throwable", name := "fillInStackTrace", desc := "()Ljava/lang/Throwable;" } : Jvm.MethodName)) ∈ BW := bw_of 189 (by decide +kernel) rfl
theorem bw_160 : (Jvm.Cond.sameMethod "java/lang/Throwable" "java/lang/Throwable" "fillInStackTrace" "()Ljava/lang/Throwable;") ∈ BW := bw_of 190 (by decide +kernel) rfl
theorem bw_161 : (Jvm.Cond.selects "java/lang/IllegalArgumentException" ({ cls := "java/lang/Throwable", name := "fillInStackTrace", desc := "()Ljava/lang/Throwable;" } : Jvm.MethodName) ({ cls := "java/lang/Throwable", name := "fillInStackTrace", desc := "()Ljava/lang/Throwable;" } : Jvm.MethodName)) ∈ BW := bw_of 191 (by decide +kernel) rfl
theorem bw_162 : (Jvm.Cond.selects "java/lang/IllegalStateException" ({ cls := "java/lang/Throwable", name := "fillInStackTrace", desc := "()Ljava/lang/Throwable;" } : Jvm.MethodName) ({ cls := "java/lang/Throwable", name := "fillInStackTrace", desc := "()Ljava/lang/Throwable;" } : Jvm.MethodName)) ∈ BW := bw_of 192 (by decide +kernel) rfl
theorem bw_163 : (Jvm.Cond.codeSync ({ cls := "java/lang/Throwable", name := "fillInStackTrace", desc := "()Ljava/lang/Throwable;" } : Jvm.MethodName) prog_24_method_18_code (1 : Nat) (Option.some (Jvm.ClassFile.FieldType.object "java/lang/Throwable"))) ∈ BW := bw_of 193 (by decide +kernel) rfl
theorem bw_164 : (Jvm.Cond.methodLink "java/lang/Throwable" (202 : Nat) ({ cls := "java/lang/Throwable", name := "fillInStackTrace", desc := "(I)Ljava/lang/Throwable;" } : Jvm.MethodName)) ∈ BW := bw_of 194 (by decide +kernel) rfl
theorem bw_166 : (Jvm.Cond.instanceMethod ({ cls := "java/lang/Throwable", name := "fillInStackTrace", desc := "(I)Ljava/lang/Throwable;" } : Jvm.MethodName)) ∈ BW := bw_of 196 (by decide +kernel) rfl
theorem bw_167 : (Jvm.Cond.instantiable "java/lang/Throwable" (6 : Nat)) ∈ BW := bw_of 197 (by decide +kernel) rfl
theorem bw_168 : (Jvm.Cond.native ({ cls := "java/lang/Throwable", name := "fillInStackTrace", desc := "(I)Ljava/lang/Throwable;" } : Jvm.MethodName)) ∈ BW := bw_of 198 (by decide +kernel) rfl
theorem bw_170 : (Jvm.Cond.methodLink "Badgewood" (302 : Nat) ({ cls := "java/lang/IndexOutOfBoundsException", name := "<init>", desc := "(Ljava/lang/String;)V" } : Jvm.MethodName)) ∈ BW := bw_of 200 (by decide +kernel) rfl
theorem bw_171 : (Jvm.Cond.instanceMethod ({ cls := "java/lang/IndexOutOfBoundsException", name := "<init>", desc := "(Ljava/lang/String;)V" } : Jvm.MethodName)) ∈ BW := bw_of 201 (by decide +kernel) rfl
theorem bw_172 : (Jvm.Cond.code ({ cls := "java/lang/IndexOutOfBoundsException", name := "<init>", desc := "(Ljava/lang/String;)V" } : Jvm.MethodName) prog_17_method_2_code (2 : Nat) (Option.none : Option Jvm.ClassFile.FieldType)) ∈ BW := bw_of 202 (by decide +kernel) rfl
theorem bw_173 : (Jvm.Cond.methodLink "java/lang/IndexOutOfBoundsException" (7 : Nat) ({ cls := "java/lang/RuntimeException", name := "<init>", desc := "(Ljava/lang/String;)V" } : Jvm.MethodName)) ∈ BW := bw_of 203 (by decide +kernel) rfl
theorem bw_174 : (Jvm.Cond.instanceMethod ({ cls := "java/lang/RuntimeException", name := "<init>", desc := "(Ljava/lang/String;)V" } : Jvm.MethodName)) ∈ BW := bw_of 204 (by decide +kernel) rfl
theorem bw_175 : (Jvm.Cond.code ({ cls := "java/lang/RuntimeException", name := "<init>", desc := "(Ljava/lang/String;)V" } : Jvm.MethodName) prog_21_method_2_code (2 : Nat) (Option.none : Option Jvm.ClassFile.FieldType)) ∈ BW := bw_of 205 (by decide +kernel) rfl
theorem bw_176 : (Jvm.Cond.methodLink "java/lang/RuntimeException" (7 : Nat) ({ cls := "java/lang/Exception", name := "<init>", desc := "(Ljava/lang/String;)V" } : Jvm.MethodName)) ∈ BW := bw_of 206 (by decide +kernel) rfl
theorem bw_177 : (Jvm.Cond.instanceMethod ({ cls := "java/lang/Exception", name := "<init>", desc := "(Ljava/lang/String;)V" } : Jvm.MethodName)) ∈ BW := bw_of 207 (by decide +kernel) rfl
theorem bw_178 : (Jvm.Cond.code ({ cls := "java/lang/Exception", name := "<init>", desc := "(Ljava/lang/String;)V" } : Jvm.MethodName) prog_14_method_2_code (2 : Nat) (Option.none : Option Jvm.ClassFile.FieldType)) ∈ BW := bw_of 208 (by decide +kernel) rfl
theorem bw_179 : (Jvm.Cond.methodLink "java/lang/Exception" (7 : Nat) ({ cls := "java/lang/Throwable", name := "<init>", desc := "(Ljava/lang/String;)V" } : Jvm.MethodName)) ∈ BW := bw_of 209 (by decide +kernel) rfl
theorem bw_180 : (Jvm.Cond.instanceMethod ({ cls := "java/lang/Throwable", name := "<init>", desc := "(Ljava/lang/String;)V" } : Jvm.MethodName)) ∈ BW := bw_of 210 (by decide +kernel) rfl
theorem bw_181 : (Jvm.Cond.code ({ cls := "java/lang/Throwable", name := "<init>", desc := "(Ljava/lang/String;)V" } : Jvm.MethodName) prog_24_method_2_code (2 : Nat) (Option.none : Option Jvm.ClassFile.FieldType)) ∈ BW := bw_of 211 (by decide +kernel) rfl
theorem bw_183 : (Jvm.Cond.fieldLink "java/lang/Throwable" (31 : Nat) "java/lang/Throwable" "detailMessage" "Ljava/lang/String;") ∈ BW := bw_of 213 (by decide +kernel) rfl
theorem bw_184 : (Jvm.Cond.fieldLink "java/lang/Throwable" (7 : Nat) "java/lang/Throwable" "cause" "Ljava/lang/Throwable;") ∈ BW := bw_of 214 (by decide +kernel) rfl
theorem bw_185 : (Jvm.Cond.fieldLink "java/lang/Throwable" (17 : Nat) "java/lang/Throwable" "stackTrace" "[Ljava/lang/StackTraceElement;") ∈ BW := bw_of 215 (by decide +kernel) rfl
theorem bw_186 : (Jvm.Cond.fieldLink "java/lang/Throwable" (24 : Nat) "java/lang/Throwable" "suppressedExceptions" "Ljava/util/List;") ∈ BW := bw_of 216 (by decide +kernel) rfl
theorem bw_195 : (Jvm.Cond.arrayClass Jvm.ClassFile.FieldType.byte) ∈ BW := bw_of 225 (by decide +kernel) rfl
theorem bw_196 : (Jvm.Cond.methodLink "Badgewood" (124 : Nat) ({ cls := "java/util/ArrayList", name := "get", desc := "(I)Ljava/lang/Object;" } : Jvm.MethodName)) ∈ BW := bw_of 226 (by decide +kernel) rfl
theorem bw_197 : (Jvm.Cond.instanceMethod ({ cls := "java/util/ArrayList", name := "get", desc := "(I)Ljava/lang/Object;" } : Jvm.MethodName)) ∈ BW := bw_of 227 (by decide +kernel) rfl
theorem bw_198 : (Jvm.Cond.selects "java/util/ArrayList" ({ cls := "java/util/ArrayList", name := "get", desc := "(I)Ljava/lang/Object;" } : Jvm.MethodName) ({ cls := "java/util/ArrayList", name := "get", desc := "(I)Ljava/lang/Object;" } : Jvm.MethodName)) ∈ BW := bw_of 228 (by decide +kernel) rfl
theorem bw_199 : (Jvm.Cond.code ({ cls := "java/util/ArrayList", name := "get", desc := "(I)Ljava/lang/Object;" } : Jvm.MethodName) prog_27_method_20_code (2 : Nat) (Option.some (Jvm.ClassFile.FieldType.object "java/lang/Object"))) ∈ BW := bw_of 229 (by decide +kernel) rfl
theorem bw_200 : (Jvm.Cond.methodLink "java/util/ArrayList" (118 : Nat) ({ cls := "java/util/Objects", name := "checkIndex", desc := "(II)I" } : Jvm.MethodName)) ∈ BW := bw_of 230 (by decide +kernel) rfl
theorem bw_201 : (Jvm.Cond.static ({ cls := "java/util/Objects", name := "checkIndex", desc := "(II)I" } : Jvm.MethodName)) ∈ BW := bw_of 231 (by decide +kernel) rfl
theorem bw_202 : (Jvm.Cond.code ({ cls := "java/util/Objects", name := "checkIndex", desc := "(II)I" } : Jvm.MethodName) prog_31_method_17_code (2 : Nat) (Option.some Jvm.ClassFile.FieldType.int)) ∈ BW := bw_of 232 (by decide +kernel) rfl
theorem bw_203 : (Jvm.Cond.methodLink "java/util/Objects" (105 : Nat) ({ cls := "jdk/internal/util/Preconditions", name := "checkIndex", desc := "(IILjava/util/function/BiFunction;)I" } : Jvm.MethodName)) ∈ BW := bw_of 233 (by decide +kernel) rfl
theorem bw_204 : (Jvm.Cond.static ({ cls := "jdk/internal/util/Preconditions", name := "checkIndex", desc := "(IILjava/util/function/BiFunction;)I" } : Jvm.MethodName)) ∈ BW := bw_of 234 (by decide +kernel) rfl
theorem bw_205 : (Jvm.Cond.code ({ cls := "jdk/internal/util/Preconditions", name := "checkIndex", desc := "(IILjava/util/function/BiFunction;)I" } : Jvm.MethodName) prog_35_method_11_code (3 : Nat) (Option.some Jvm.ClassFile.FieldType.int)) ∈ BW := bw_of 235 (by decide +kernel) rfl
theorem bw_206 : (Jvm.Cond.methodLink "java/util/ArrayList" (123 : Nat) ({ cls := "java/util/ArrayList", name := "elementData", desc := "(I)Ljava/lang/Object;" } : Jvm.MethodName)) ∈ BW := bw_of 236 (by decide +kernel) rfl
theorem bw_207 : (Jvm.Cond.instanceMethod ({ cls := "java/util/ArrayList", name := "elementData", desc := "(I)Ljava/lang/Object;" } : Jvm.MethodName)) ∈ BW := bw_of 237 (by decide +kernel) rfl
theorem bw_208 : (Jvm.Cond.selects "java/util/ArrayList" ({ cls := "java/util/ArrayList", name := "elementData", desc := "(I)Ljava/lang/Object;" } : Jvm.MethodName) ({ cls := "java/util/ArrayList", name := "elementData", desc := "(I)Ljava/lang/Object;" } : Jvm.MethodName)) ∈ BW := bw_of 238 (by decide +kernel) rfl
theorem bw_209 : (Jvm.Cond.code ({ cls := "java/util/ArrayList", name := "elementData", desc := "(I)Ljava/lang/Object;" } : Jvm.MethodName) prog_27_method_18_code (2 : Nat) (Option.some (Jvm.ClassFile.FieldType.object "java/lang/Object"))) ∈ BW := bw_of 239 (by decide +kernel) rfl
theorem bw_210 : (Jvm.Cond.classLink "Badgewood" (60 : Nat) "Badgewood$Child") ∈ BW := bw_of 240 (by decide +kernel) rfl
theorem bw_211 : (Jvm.Cond.methodLink "Badgewood" (220 : Nat) ({ cls := "Badgewood$Child", name := "badgesBy", desc := "(I)I" } : Jvm.MethodName)) ∈ BW := bw_of 241 (by decide +kernel) rfl
theorem bw_212 : (Jvm.Cond.instanceMethod ({ cls := "Badgewood$Child", name := "badgesBy", desc := "(I)I" } : Jvm.MethodName)) ∈ BW := bw_of 242 (by decide +kernel) rfl
theorem bw_213 : (Jvm.Cond.selects "Badgewood$Child" ({ cls := "Badgewood$Child", name := "badgesBy", desc := "(I)I" } : Jvm.MethodName) ({ cls := "Badgewood$Child", name := "badgesBy", desc := "(I)I" } : Jvm.MethodName)) ∈ BW := bw_of 243 (by decide +kernel) rfl
theorem bw_214 : (Jvm.Cond.code ({ cls := "Badgewood$Child", name := "badgesBy", desc := "(I)I" } : Jvm.MethodName) prog_3_method_7_code (4 : Nat) (Option.some Jvm.ClassFile.FieldType.int)) ∈ BW := bw_of 244 (by decide +kernel) rfl
theorem bw_215 : (Jvm.Cond.methodLink "Badgewood$Child" (60 : Nat) ({ cls := "Badgewood$Child", name := "dayEarned", desc := "(I)I" } : Jvm.MethodName)) ∈ BW := bw_of 245 (by decide +kernel) rfl
theorem bw_216 : (Jvm.Cond.instanceMethod ({ cls := "Badgewood$Child", name := "dayEarned", desc := "(I)I" } : Jvm.MethodName)) ∈ BW := bw_of 246 (by decide +kernel) rfl
theorem bw_217 : (Jvm.Cond.selects "Badgewood$Child" ({ cls := "Badgewood$Child", name := "dayEarned", desc := "(I)I" } : Jvm.MethodName) ({ cls := "Badgewood$Child", name := "dayEarned", desc := "(I)I" } : Jvm.MethodName)) ∈ BW := bw_of 247 (by decide +kernel) rfl
theorem bw_218 : (Jvm.Cond.code ({ cls := "Badgewood$Child", name := "dayEarned", desc := "(I)I" } : Jvm.MethodName) prog_3_method_6_code (3 : Nat) (Option.some Jvm.ClassFile.FieldType.int)) ∈ BW := bw_of 248 (by decide +kernel) rfl
theorem bw_219 : (Jvm.Cond.methodLink "Badgewood$Child" (52 : Nat) ({ cls := "Badgewood$Child", name := "courseOf", desc := "(I)LBadgewood$Course;" } : Jvm.MethodName)) ∈ BW := bw_of 249 (by decide +kernel) rfl
theorem bw_220 : (Jvm.Cond.instanceMethod ({ cls := "Badgewood$Child", name := "courseOf", desc := "(I)LBadgewood$Course;" } : Jvm.MethodName)) ∈ BW := bw_of 250 (by decide +kernel) rfl
theorem bw_221 : (Jvm.Cond.selects "Badgewood$Child" ({ cls := "Badgewood$Child", name := "courseOf", desc := "(I)LBadgewood$Course;" } : Jvm.MethodName) ({ cls := "Badgewood$Child", name := "courseOf", desc := "(I)LBadgewood$Course;" } : Jvm.MethodName)) ∈ BW := bw_of 251 (by decide +kernel) rfl
theorem bw_222 : (Jvm.Cond.code ({ cls := "Badgewood$Child", name := "courseOf", desc := "(I)LBadgewood$Course;" } : Jvm.MethodName) prog_3_method_3_code (2 : Nat) (Option.some (Jvm.ClassFile.FieldType.object "Badgewood$Course"))) ∈ BW := bw_of 252 (by decide +kernel) rfl
theorem bw_223 : (Jvm.Cond.constant "Badgewood$Child" (56 : Nat) (1000000 : Int32)) ∈ BW := bw_of 253 (by decide +kernel) rfl
theorem bw_224 : (Jvm.Cond.classLink "Badgewood" (175 : Nat) "java/lang/IllegalArgumentException") ∈ BW := bw_of 254 (by decide +kernel) rfl
theorem bw_225 : (Jvm.Cond.instantiable "java/lang/IllegalArgumentException" (6 : Nat)) ∈ BW := bw_of 255 (by decide +kernel) rfl
theorem nw_226 : (Jvm.Cond.castable "java/lang/IllegalArgumentException" "java/lang/IllegalArgumentException") ∈ NW := nw_of 256 (by decide +kernel) rfl
theorem bw_227 : (Jvm.Cond.selects "java/lang/IllegalArgumentException" ({ cls := "java/lang/Throwable", name := "fillInStackTrace", desc := "(I)Ljava/lang/Throwable;" } : Jvm.MethodName) ({ cls := "java/lang/Throwable", name := "fillInStackTrace", desc := "(I)Ljava/lang/Throwable;" } : Jvm.MethodName)) ∈ BW := bw_of 257 (by decide +kernel) rfl
theorem bw_234 : (Jvm.Cond.methodLink "Badgewood" (179 : Nat) ({ cls := "java/lang/IllegalArgumentException", name := "<init>", desc := "(Ljava/lang/String;)V" } : Jvm.MethodName)) ∈ BW := bw_of 264 (by decide +kernel) rfl
theorem bw_235 : (Jvm.Cond.instanceMethod ({ cls := "java/lang/IllegalArgumentException", name := "<init>", desc := "(Ljava/lang/String;)V" } : Jvm.MethodName)) ∈ BW := bw_of 265 (by decide +kernel) rfl
theorem bw_236 : (Jvm.Cond.code ({ cls := "java/lang/IllegalArgumentException", name := "<init>", desc := "(Ljava/lang/String;)V" } : Jvm.MethodName) prog_15_method_2_code (2 : Nat) (Option.none : Option Jvm.ClassFile.FieldType)) ∈ BW := bw_of 266 (by decide +kernel) rfl
theorem bw_237 : (Jvm.Cond.methodLink "java/lang/IllegalArgumentException" (7 : Nat) ({ cls := "java/lang/RuntimeException", name := "<init>", desc := "(Ljava/lang/String;)V" } : Jvm.MethodName)) ∈ BW := bw_of 267 (by decide +kernel) rfl
theorem bw_240 : (Jvm.Cond.methodLink "BadgewoodLaw" (100 : Nat) ({ cls := "Badgewood", name := "earned", desc := "(II)I" } : Jvm.MethodName)) ∈ BW := bw_of 270 (by decide +kernel) rfl
theorem bw_241 : (Jvm.Cond.instanceMethod ({ cls := "Badgewood", name := "earned", desc := "(II)I" } : Jvm.MethodName)) ∈ BW := bw_of 271 (by decide +kernel) rfl
theorem bw_242 : (Jvm.Cond.selects "Badgewood" ({ cls := "Badgewood", name := "earned", desc := "(II)I" } : Jvm.MethodName) ({ cls := "Badgewood", name := "earned", desc := "(II)I" } : Jvm.MethodName)) ∈ BW := bw_of 272 (by decide +kernel) rfl
theorem bw_243 : (Jvm.Cond.code ({ cls := "Badgewood", name := "earned", desc := "(II)I" } : Jvm.MethodName) prog_1_method_27_code (5 : Nat) (Option.some Jvm.ClassFile.FieldType.int)) ∈ BW := bw_of 273 (by decide +kernel) rfl
theorem bw_244 : (Jvm.Cond.methodLink "Badgewood" (283 : Nat) ({ cls := "Badgewood$Child", name := "dayEarned", desc := "(I)I" } : Jvm.MethodName)) ∈ BW := bw_of 274 (by decide +kernel) rfl
theorem bw_245 : (Jvm.Cond.methodLink "BadgewoodLaw" (103 : Nat) ({ cls := "Badgewood", name := "holds", desc := "(II)Z" } : Jvm.MethodName)) ∈ BW := bw_of 275 (by decide +kernel) rfl
theorem bw_246 : (Jvm.Cond.instanceMethod ({ cls := "Badgewood", name := "holds", desc := "(II)Z" } : Jvm.MethodName)) ∈ BW := bw_of 276 (by decide +kernel) rfl
theorem bw_247 : (Jvm.Cond.selects "Badgewood" ({ cls := "Badgewood", name := "holds", desc := "(II)Z" } : Jvm.MethodName) ({ cls := "Badgewood", name := "holds", desc := "(II)Z" } : Jvm.MethodName)) ∈ BW := bw_of 277 (by decide +kernel) rfl
theorem bw_248 : (Jvm.Cond.code ({ cls := "Badgewood", name := "holds", desc := "(II)Z" } : Jvm.MethodName) prog_1_method_28_code (5 : Nat) (Option.some Jvm.ClassFile.FieldType.boolean)) ∈ BW := bw_of 278 (by decide +kernel) rfl
theorem bw_249 : (Jvm.Cond.methodLink "Badgewood" (190 : Nat) ({ cls := "Badgewood$Child", name := "courseOf", desc := "(I)LBadgewood$Course;" } : Jvm.MethodName)) ∈ BW := bw_of 279 (by decide +kernel) rfl
theorem bw_250 : (Jvm.Cond.methodLink "Badgewood" (286 : Nat) ({ cls := "Badgewood$Course", name := "isHeldOn", desc := "(I)Z" } : Jvm.MethodName)) ∈ BW := bw_of 280 (by decide +kernel) rfl
theorem bw_251 : (Jvm.Cond.instanceMethod ({ cls := "Badgewood$Course", name := "isHeldOn", desc := "(I)Z" } : Jvm.MethodName)) ∈ BW := bw_of 281 (by decide +kernel) rfl
theorem bw_252 : (Jvm.Cond.selects "Badgewood$Course" ({ cls := "Badgewood$Course", name := "isHeldOn", desc := "(I)Z" } : Jvm.MethodName) ({ cls := "Badgewood$Course", name := "isHeldOn", desc := "(I)Z" } : Jvm.MethodName)) ∈ BW := bw_of 282 (by decide +kernel) rfl
theorem bw_253 : (Jvm.Cond.code ({ cls := "Badgewood$Course", name := "isHeldOn", desc := "(I)Z" } : Jvm.MethodName) prog_4_method_2_code (2 : Nat) (Option.some Jvm.ClassFile.FieldType.boolean)) ∈ BW := bw_of 283 (by decide +kernel) rfl
theorem bw_254 : (Jvm.Cond.constantLong "BadgewoodLaw" (125 : Nat) (7 : Int64)) ∈ BW := bw_of 284 (by decide +kernel) rfl
theorem bw_255 : (Jvm.Cond.constantLong "BadgewoodLaw" (127 : Nat) (31 : Int64)) ∈ BW := bw_of 285 (by decide +kernel) rfl
theorem bw_256 : (Jvm.Cond.methodLink "BadgewoodLaw" (96 : Nat) ({ cls := "Badgewood", name := "ofTroop", desc := "(IZ)I" } : Jvm.MethodName)) ∈ BW := bw_of 286 (by decide +kernel) rfl
theorem bw_257 : (Jvm.Cond.instanceMethod ({ cls := "Badgewood", name := "ofTroop", desc := "(IZ)I" } : Jvm.MethodName)) ∈ BW := bw_of 287 (by decide +kernel) rfl
theorem bw_258 : (Jvm.Cond.selects "Badgewood" ({ cls := "Badgewood", name := "ofTroop", desc := "(IZ)I" } : Jvm.MethodName) ({ cls := "Badgewood", name := "ofTroop", desc := "(IZ)I" } : Jvm.MethodName)) ∈ BW := bw_of 288 (by decide +kernel) rfl
theorem bw_259 : (Jvm.Cond.code ({ cls := "Badgewood", name := "ofTroop", desc := "(IZ)I" } : Jvm.MethodName) prog_1_method_26_code (4 : Nat) (Option.some Jvm.ClassFile.FieldType.int)) ∈ BW := bw_of 289 (by decide +kernel) rfl
theorem bw_260 : (Jvm.Cond.methodLink "Badgewood" (68 : Nat) ({ cls := "Badgewood", name := "troopAt", desc := "(I)LBadgewood$Troop;" } : Jvm.MethodName)) ∈ BW := bw_of 290 (by decide +kernel) rfl
theorem bw_262 : (Jvm.Cond.instanceMethod ({ cls := "Badgewood", name := "troopAt", desc := "(I)LBadgewood$Troop;" } : Jvm.MethodName)) ∈ BW := bw_of 292 (by decide +kernel) rfl
theorem bw_263 : (Jvm.Cond.code ({ cls := "Badgewood", name := "troopAt", desc := "(I)LBadgewood$Troop;" } : Jvm.MethodName) prog_1_method_33_code (2 : Nat) (Option.some (Jvm.ClassFile.FieldType.object "Badgewood$Troop"))) ∈ BW := bw_of 293 (by decide +kernel) rfl
theorem bw_264 : (Jvm.Cond.classLink "Badgewood" (51 : Nat) "Badgewood$Troop") ∈ BW := bw_of 294 (by decide +kernel) rfl
theorem bw_265 : (Jvm.Cond.methodLink "Badgewood" (277 : Nat) ({ cls := "Badgewood", name := "waitingFor", desc := "(I)I" } : Jvm.MethodName)) ∈ BW := bw_of 295 (by decide +kernel) rfl
theorem bw_267 : (Jvm.Cond.instanceMethod ({ cls := "Badgewood", name := "waitingFor", desc := "(I)I" } : Jvm.MethodName)) ∈ BW := bw_of 297 (by decide +kernel) rfl
theorem bw_268 : (Jvm.Cond.code ({ cls := "Badgewood", name := "waitingFor", desc := "(I)I" } : Jvm.MethodName) prog_1_method_40_code (4 : Nat) (Option.some Jvm.ClassFile.FieldType.int)) ∈ BW := bw_of 298 (by decide +kernel) rfl
theorem bw_269 : (Jvm.Cond.methodLink "Badgewood" (280 : Nat) ({ cls := "Badgewood", name := "childrenIn", desc := "(I)I" } : Jvm.MethodName)) ∈ BW := bw_of 299 (by decide +kernel) rfl
theorem bw_271 : (Jvm.Cond.instanceMethod ({ cls := "Badgewood", name := "childrenIn", desc := "(I)I" } : Jvm.MethodName)) ∈ BW := bw_of 301 (by decide +kernel) rfl
theorem bw_272 : (Jvm.Cond.code ({ cls := "Badgewood", name := "childrenIn", desc := "(I)I" } : Jvm.MethodName) prog_1_method_39_code (4 : Nat) (Option.some Jvm.ClassFile.FieldType.int)) ∈ BW := bw_of 302 (by decide +kernel) rfl
theorem bw_273 : (Jvm.Cond.methodLink "BadgewoodLaw" (90 : Nat) ({ cls := "Badgewood", name := "owed", desc := "(I)I" } : Jvm.MethodName)) ∈ BW := bw_of 303 (by decide +kernel) rfl
theorem bw_274 : (Jvm.Cond.instanceMethod ({ cls := "Badgewood", name := "owed", desc := "(I)I" } : Jvm.MethodName)) ∈ BW := bw_of 304 (by decide +kernel) rfl
theorem bw_275 : (Jvm.Cond.selects "Badgewood" ({ cls := "Badgewood", name := "owed", desc := "(I)I" } : Jvm.MethodName) ({ cls := "Badgewood", name := "owed", desc := "(I)I" } : Jvm.MethodName)) ∈ BW := bw_of 305 (by decide +kernel) rfl
theorem bw_276 : (Jvm.Cond.code ({ cls := "Badgewood", name := "owed", desc := "(I)I" } : Jvm.MethodName) prog_1_method_23_code (5 : Nat) (Option.some Jvm.ClassFile.FieldType.int)) ∈ BW := bw_of 306 (by decide +kernel) rfl
theorem bw_277 : (Jvm.Cond.methodLink "BadgewoodLaw" (44 : Nat) ({ cls := "Badgewood", name := "duty", desc := "(II)I" } : Jvm.MethodName)) ∈ BW := bw_of 307 (by decide +kernel) rfl
theorem bw_278 : (Jvm.Cond.instanceMethod ({ cls := "Badgewood", name := "duty", desc := "(II)I" } : Jvm.MethodName)) ∈ BW := bw_of 308 (by decide +kernel) rfl
theorem bw_279 : (Jvm.Cond.selects "Badgewood" ({ cls := "Badgewood", name := "duty", desc := "(II)I" } : Jvm.MethodName) ({ cls := "Badgewood", name := "duty", desc := "(II)I" } : Jvm.MethodName)) ∈ BW := bw_of 309 (by decide +kernel) rfl
theorem bw_280 : (Jvm.Cond.code ({ cls := "Badgewood", name := "duty", desc := "(II)I" } : Jvm.MethodName) prog_1_method_7_code (5 : Nat) (Option.some Jvm.ClassFile.FieldType.int)) ∈ BW := bw_of 310 (by decide +kernel) rfl
theorem bw_281 : (Jvm.Cond.methodLink "Badgewood" (39 : Nat) ({ cls := "Badgewood", name := "requireRange", desc := "(III)V" } : Jvm.MethodName)) ∈ BW := bw_of 311 (by decide +kernel) rfl
theorem bw_282 : (Jvm.Cond.static ({ cls := "Badgewood", name := "requireRange", desc := "(III)V" } : Jvm.MethodName)) ∈ BW := bw_of 312 (by decide +kernel) rfl
theorem bw_283 : (Jvm.Cond.code ({ cls := "Badgewood", name := "requireRange", desc := "(III)V" } : Jvm.MethodName) prog_1_method_31_code (3 : Nat) (Option.none : Option Jvm.ClassFile.FieldType)) ∈ BW := bw_of 313 (by decide +kernel) rfl
theorem bw_285 : (Jvm.Cond.methodLink "Badgewood" (115 : Nat) ({ cls := "Badgewood", name := "filledPatrols", desc := "(I)I" } : Jvm.MethodName)) ∈ BW := bw_of 315 (by decide +kernel) rfl
theorem bw_287 : (Jvm.Cond.instanceMethod ({ cls := "Badgewood", name := "filledPatrols", desc := "(I)I" } : Jvm.MethodName)) ∈ BW := bw_of 317 (by decide +kernel) rfl
theorem bw_288 : (Jvm.Cond.code ({ cls := "Badgewood", name := "filledPatrols", desc := "(I)I" } : Jvm.MethodName) prog_1_method_43_code (4 : Nat) (Option.some Jvm.ClassFile.FieldType.int)) ∈ BW := bw_of 318 (by decide +kernel) rfl
theorem bw_289 : (Jvm.Cond.methodLink "Badgewood" (307 : Nat) ({ cls := "Badgewood", name := "childrenInPatrol", desc := "(II)I" } : Jvm.MethodName)) ∈ BW := bw_of 319 (by decide +kernel) rfl
theorem bw_291 : (Jvm.Cond.instanceMethod ({ cls := "Badgewood", name := "childrenInPatrol", desc := "(II)I" } : Jvm.MethodName)) ∈ BW := bw_of 321 (by decide +kernel) rfl
theorem bw_292 : (Jvm.Cond.code ({ cls := "Badgewood", name := "childrenInPatrol", desc := "(II)I" } : Jvm.MethodName) prog_1_method_41_code (6 : Nat) (Option.some Jvm.ClassFile.FieldType.int)) ∈ BW := bw_of 322 (by decide +kernel) rfl
theorem bw_293 : (Jvm.Cond.methodLink "Badgewood" (118 : Nat) ({ cls := "Badgewood", name := "filledPatrolAt", desc := "(II)I" } : Jvm.MethodName)) ∈ BW := bw_of 323 (by decide +kernel) rfl
theorem bw_295 : (Jvm.Cond.instanceMethod ({ cls := "Badgewood", name := "filledPatrolAt", desc := "(II)I" } : Jvm.MethodName)) ∈ BW := bw_of 325 (by decide +kernel) rfl
theorem bw_296 : (Jvm.Cond.code ({ cls := "Badgewood", name := "filledPatrolAt", desc := "(II)I" } : Jvm.MethodName) prog_1_method_44_code (5 : Nat) (Option.some Jvm.ClassFile.FieldType.int)) ∈ BW := bw_of 326 (by decide +kernel) rfl
theorem bw_297 : (Jvm.Cond.constantLong "BadgewoodLaw" (129 : Nat) (11 : Int64)) ∈ BW := bw_of 327 (by decide +kernel) rfl
theorem bw_298 : (Jvm.Cond.methodLink "BadgewoodLaw" (77 : Nat) ({ cls := "Badgewood", name := "why", desc := "(I)I" } : Jvm.MethodName)) ∈ BW := bw_of 328 (by decide +kernel) rfl
theorem bw_299 : (Jvm.Cond.instanceMethod ({ cls := "Badgewood", name := "why", desc := "(I)I" } : Jvm.MethodName)) ∈ BW := bw_of 329 (by decide +kernel) rfl
theorem bw_300 : (Jvm.Cond.selects "Badgewood" ({ cls := "Badgewood", name := "why", desc := "(I)I" } : Jvm.MethodName) ({ cls := "Badgewood", name := "why", desc := "(I)I" } : Jvm.MethodName)) ∈ BW := bw_of 330 (by decide +kernel) rfl
theorem bw_301 : (Jvm.Cond.code ({ cls := "Badgewood", name := "why", desc := "(I)I" } : Jvm.MethodName) prog_1_method_19_code (3 : Nat) (Option.some Jvm.ClassFile.FieldType.int)) ∈ BW := bw_of 331 (by decide +kernel) rfl
theorem bw_302 : (Jvm.Cond.methodLink "Badgewood" (226 : Nat) ({ cls := "Badgewood", name := "eventAt", desc := "(I)LBadgewood$Event;" } : Jvm.MethodName)) ∈ BW := bw_of 332 (by decide +kernel) rfl
theorem bw_304 : (Jvm.Cond.instanceMethod ({ cls := "Badgewood", name := "eventAt", desc := "(I)LBadgewood$Event;" } : Jvm.MethodName)) ∈ BW := bw_of 334 (by decide +kernel) rfl
theorem bw_305 : (Jvm.Cond.code ({ cls := "Badgewood", name := "eventAt", desc := "(I)LBadgewood$Event;" } : Jvm.MethodName) prog_1_method_36_code (2 : Nat) (Option.some (Jvm.ClassFile.FieldType.object "Badgewood$Event"))) ∈ BW := bw_of 335 (by decide +kernel) rfl
theorem bw_306 : (Jvm.Cond.classLink "Badgewood" (223 : Nat) "Badgewood$Event") ∈ BW := bw_of 336 (by decide +kernel) rfl
theorem bw_307 : (Jvm.Cond.methodLink "Badgewood" (238 : Nat) ({ cls := "Badgewood", name := "needOf", desc := "(LBadgewood$Event;)LBadgewood$Need;" } : Jvm.MethodName)) ∈ BW := bw_of 337 (by decide +kernel) rfl
theorem bw_309 : (Jvm.Cond.instanceMethod ({ cls := "Badgewood", name := "needOf", desc := "(LBadgewood$Event;)LBadgewood$Need;" } : Jvm.MethodName)) ∈ BW := bw_of 339 (by decide +kernel) rfl
theorem bw_310 : (Jvm.Cond.code ({ cls := "Badgewood", name := "needOf", desc := "(LBadgewood$Event;)LBadgewood$Need;" } : Jvm.MethodName) prog_1_method_55_code (5 : Nat) (Option.some (Jvm.ClassFile.FieldType.object "Badgewood$Need"))) ∈ BW := bw_of 340 (by decide +kernel) rfl
theorem bw_311 : (Jvm.Cond.classLink "Badgewood" (148 : Nat) "Badgewood$Leader") ∈ BW := bw_of 341 (by decide +kernel) rfl
theorem bw_312 : (Jvm.Cond.methodLink "Badgewood" (341 : Nat) ({ cls := "Badgewood$Leader", name := "isVetted", desc := "(II)Z" } : Jvm.MethodName)) ∈ BW := bw_of 342 (by decide +kernel) rfl
theorem bw_313 : (Jvm.Cond.instanceMethod ({ cls := "Badgewood$Leader", name := "isVetted", desc := "(II)Z" } : Jvm.MethodName)) ∈ BW := bw_of 343 (by decide +kernel) rfl
theorem bw_314 : (Jvm.Cond.selects "Badgewood$Leader" ({ cls := "Badgewood$Leader", name := "isVetted", desc := "(II)Z" } : Jvm.MethodName) ({ cls := "Badgewood$Leader", name := "isVetted", desc := "(II)Z" } : Jvm.MethodName)) ∈ BW := bw_of 344 (by decide +kernel) rfl
theorem bw_315 : (Jvm.Cond.code ({ cls := "Badgewood$Leader", name := "isVetted", desc := "(II)Z" } : Jvm.MethodName) prog_7_method_3_code (3 : Nat) (Option.some Jvm.ClassFile.FieldType.boolean)) ∈ BW := bw_of 345 (by decide +kernel) rfl
theorem bw_316 : (Jvm.Cond.methodLink "Badgewood" (347 : Nat) ({ cls := "Badgewood$Leader", name := "mayLead", desc := "(II)Z" } : Jvm.MethodName)) ∈ BW := bw_of 346 (by decide +kernel) rfl
theorem bw_317 : (Jvm.Cond.instanceMethod ({ cls := "Badgewood$Leader", name := "mayLead", desc := "(II)Z" } : Jvm.MethodName)) ∈ BW := bw_of 347 (by decide +kernel) rfl
theorem bw_318 : (Jvm.Cond.selects "Badgewood$Leader" ({ cls := "Badgewood$Leader", name := "mayLead", desc := "(II)Z" } : Jvm.MethodName) ({ cls := "Badgewood$Leader", name := "mayLead", desc := "(II)Z" } : Jvm.MethodName)) ∈ BW := bw_of 348 (by decide +kernel) rfl
theorem bw_319 : (Jvm.Cond.code ({ cls := "Badgewood$Leader", name := "mayLead", desc := "(II)Z" } : Jvm.MethodName) prog_7_method_7_code (3 : Nat) (Option.some Jvm.ClassFile.FieldType.boolean)) ∈ BW := bw_of 349 (by decide +kernel) rfl
theorem bw_320 : (Jvm.Cond.methodLink "Badgewood$Leader" (25 : Nat) ({ cls := "Badgewood$Leader", name := "permitOf", desc := "(I)I" } : Jvm.MethodName)) ∈ BW := bw_of 350 (by decide +kernel) rfl
theorem bw_321 : (Jvm.Cond.instanceMethod ({ cls := "Badgewood$Leader", name := "permitOf", desc := "(I)I" } : Jvm.MethodName)) ∈ BW := bw_of 351 (by decide +kernel) rfl
theorem bw_322 : (Jvm.Cond.selects "Badgewood$Leader" ({ cls := "Badgewood$Leader", name := "permitOf", desc := "(I)I" } : Jvm.MethodName) ({ cls := "Badgewood$Leader", name := "permitOf", desc := "(I)I" } : Jvm.MethodName)) ∈ BW := bw_of 352 (by decide +kernel) rfl
theorem bw_323 : (Jvm.Cond.code ({ cls := "Badgewood$Leader", name := "permitOf", desc := "(I)I" } : Jvm.MethodName) prog_7_method_6_code (2 : Nat) (Option.some Jvm.ClassFile.FieldType.int)) ∈ BW := bw_of 353 (by decide +kernel) rfl
theorem bw_324 : (Jvm.Cond.classLink "Badgewood" (243 : Nat) "Badgewood$Need") ∈ BW := bw_of 354 (by decide +kernel) rfl
theorem bw_325 : (Jvm.Cond.instantiable "Badgewood$Need" (5 : Nat)) ∈ BW := bw_of 355 (by decide +kernel) rfl
theorem bw_326 : (Jvm.Cond.methodLink "Badgewood" (351 : Nat) ({ cls := "Badgewood", name := "childrenPerLeader", desc := "(I)I" } : Jvm.MethodName)) ∈ BW := bw_of 356 (by decide +kernel) rfl
theorem bw_327 : (Jvm.Cond.static ({ cls := "Badgewood", name := "childrenPerLeader", desc := "(I)I" } : Jvm.MethodName)) ∈ BW := bw_of 357 (by decide +kernel) rfl
theorem bw_328 : (Jvm.Cond.code ({ cls := "Badgewood", name := "childrenPerLeader", desc := "(I)I" } : Jvm.MethodName) prog_1_method_53_code (1 : Nat) (Option.some Jvm.ClassFile.FieldType.int)) ∈ BW := bw_of 358 (by decide +kernel) rfl
theorem bw_329 : (Jvm.Cond.methodLink "Badgewood" (354 : Nat) ({ cls := "Badgewood$Need", name := "<init>", desc := "(IIII)V" } : Jvm.MethodName)) ∈ BW := bw_of 359 (by decide +kernel) rfl
theorem bw_330 : (Jvm.Cond.instanceMethod ({ cls := "Badgewood$Need", name := "<init>", desc := "(IIII)V" } : Jvm.MethodName)) ∈ BW := bw_of 360 (by decide +kernel) rfl
theorem bw_331 : (Jvm.Cond.code ({ cls := "Badgewood$Need", name := "<init>", desc := "(IIII)V" } : Jvm.MethodName) prog_8_method_1_code (5 : Nat) (Option.none : Option Jvm.ClassFile.FieldType)) ∈ BW := bw_of 361 (by decide +kernel) rfl
theorem bw_332 : (Jvm.Cond.methodLink "Badgewood$Need" (3 : Nat) ({ cls := "java/lang/Object", name := "<init>", desc := "()V" } : Jvm.MethodName)) ∈ BW := bw_of 362 (by decide +kernel) rfl
theorem bw_333 : (Jvm.Cond.methodLink "Badgewood$Need" (24 : Nat) ({ cls := "Badgewood$Need", name := "leastLeaders", desc := "(II)I" } : Jvm.MethodName)) ∈ BW := bw_of 363 (by decide +kernel) rfl
theorem bw_334 : (Jvm.Cond.static ({ cls := "Badgewood$Need", name := "leastLeaders", desc := "(II)I" } : Jvm.MethodName)) ∈ BW := bw_of 364 (by decide +kernel) rfl
theorem bw_335 : (Jvm.Cond.code ({ cls := "Badgewood$Need", name := "leastLeaders", desc := "(II)I" } : Jvm.MethodName) prog_8_method_2_code (3 : Nat) (Option.some Jvm.ClassFile.FieldType.int)) ∈ BW := bw_of 365 (by decide +kernel) rfl
theorem bw_336 : (Jvm.Cond.fieldLink "Badgewood$Need" (9 : Nat) "Badgewood$Need" "young" "I") ∈ BW := bw_of 366 (by decide +kernel) rfl
theorem bw_337 : (Jvm.Cond.fieldLink "Badgewood$Need" (15 : Nat) "Badgewood$Need" "perLeader" "I") ∈ BW := bw_of 367 (by decide +kernel) rfl
theorem bw_338 : (Jvm.Cond.fieldLink "Badgewood$Need" (18 : Nat) "Badgewood$Need" "vetted" "I") ∈ BW := bw_of 368 (by decide +kernel) rfl
theorem bw_339 : (Jvm.Cond.fieldLink "Badgewood" (358 : Nat) "Badgewood$Need" "vetted" "I") ∈ BW := bw_of 369 (by decide +kernel) rfl
theorem bw_340 : (Jvm.Cond.fieldLink "Badgewood$Need" (21 : Nat) "Badgewood$Need" "permitted" "I") ∈ BW := bw_of 370 (by decide +kernel) rfl
theorem bw_341 : (Jvm.Cond.fieldLink "Badgewood$Need" (28 : Nat) "Badgewood$Need" "least" "I") ∈ BW := bw_of 371 (by decide +kernel) rfl
theorem bw_342 : (Jvm.Cond.fieldLink "Badgewood" (361 : Nat) "Badgewood$Need" "least" "I") ∈ BW := bw_of 372 (by decide +kernel) rfl
theorem bw_354 : (Jvm.Cond.methodLink "Badgewood" (242 : Nat) ({ cls := "Badgewood$Need", name := "verdict", desc := "(I)I" } : Jvm.MethodName)) ∈ BW := bw_of 384 (by decide +kernel) rfl
theorem bw_355 : (Jvm.Cond.instanceMethod ({ cls := "Badgewood$Need", name := "verdict", desc := "(I)I" } : Jvm.MethodName)) ∈ BW := bw_of 385 (by decide +kernel) rfl
theorem bw_356 : (Jvm.Cond.selects "Badgewood$Need" ({ cls := "Badgewood$Need", name := "verdict", desc := "(I)I" } : Jvm.MethodName) ({ cls := "Badgewood$Need", name := "verdict", desc := "(I)I" } : Jvm.MethodName)) ∈ BW := bw_of 386 (by decide +kernel) rfl
theorem bw_357 : (Jvm.Cond.code ({ cls := "Badgewood$Need", name := "verdict", desc := "(I)I" } : Jvm.MethodName) prog_8_method_3_code (3 : Nat) (Option.some Jvm.ClassFile.FieldType.int)) ∈ BW := bw_of 387 (by decide +kernel) rfl
theorem bw_358 : (Jvm.Cond.methodLink "Badgewood$Need" (31 : Nat) ({ cls := "java/lang/Integer", name := "bitCount", desc := "(I)I" } : Jvm.MethodName)) ∈ BW := bw_of 388 (by decide +kernel) rfl
theorem bw_359 : (Jvm.Cond.static ({ cls := "java/lang/Integer", name := "bitCount", desc := "(I)I" } : Jvm.MethodName)) ∈ BW := bw_of 389 (by decide +kernel) rfl
theorem bw_360 : (Jvm.Cond.code ({ cls := "java/lang/Integer", name := "bitCount", desc := "(I)I" } : Jvm.MethodName) prog_18_method_49_code (1 : Nat) (Option.some Jvm.ClassFile.FieldType.int)) ∈ BW := bw_of 390 (by decide +kernel) rfl
theorem bw_361 : (Jvm.Cond.constant "java/lang/Integer" (265 : Nat) (1431655765 : Int32)) ∈ BW := bw_of 391 (by decide +kernel) rfl
theorem bw_362 : (Jvm.Cond.constant "java/lang/Integer" (266 : Nat) (858993459 : Int32)) ∈ BW := bw_of 392 (by decide +kernel) rfl
theorem bw_363 : (Jvm.Cond.constant "java/lang/Integer" (267 : Nat) (252645135 : Int32)) ∈ BW := bw_of 393 (by decide +kernel) rfl
theorem bw_364 : (Jvm.Cond.methodLink "BadgewoodLaw" (138 : Nat) ({ cls := "BadgewoodLaw", name := "both", desc := "(LBadgewood;LBadgewood;IIIII)I" } : Jvm.MethodName)) ∈ BW := bw_of 394 (by decide +kernel) rfl
theorem bw_365 : (Jvm.Cond.static ({ cls := "BadgewoodLaw", name := "both", desc := "(LBadgewood;LBadgewood;IIIII)I" } : Jvm.MethodName)) ∈ BW := bw_of 395 (by decide +kernel) rfl
theorem bw_366 : (Jvm.Cond.code ({ cls := "BadgewoodLaw", name := "both", desc := "(LBadgewood;LBadgewood;IIIII)I" } : Jvm.MethodName) method_9_code (8 : Nat) (Option.some Jvm.ClassFile.FieldType.int)) ∈ BW := bw_of 396 (by decide +kernel) rfl
theorem bw_367 : (Jvm.Cond.methodLink "BadgewoodLaw" (131 : Nat) ({ cls := "BadgewoodLaw", name := "call", desc := "(LBadgewood;IIIII)I" } : Jvm.MethodName)) ∈ BW := bw_of 397 (by decide +kernel) rfl
theorem bw_368 : (Jvm.Cond.static ({ cls := "BadgewoodLaw", name := "call", desc := "(LBadgewood;IIIII)I" } : Jvm.MethodName)) ∈ BW := bw_of 398 (by decide +kernel) rfl
theorem bw_369 : (Jvm.Cond.codeWith ({ cls := "BadgewoodLaw", name := "call", desc := "(LBadgewood;IIIII)I" } : Jvm.MethodName) method_4_code (7 : Nat) (Option.some Jvm.ClassFile.FieldType.int) [((0 : Nat), (11 : Nat), (12 : Nat), (15 : Nat)), ((0 : Nat), (11 : Nat), (17 : Nat), (18 : Nat)), ((0 : Nat), (11 : Nat), (22 : Nat), (21 : Nat))]) ∈ BW := bw_of 399 (by decide +kernel) rfl
theorem bw_370 : (Jvm.Cond.classLink "BadgewoodLaw" (15 : Nat) "java/lang/IndexOutOfBoundsException") ∈ BW := bw_of 400 (by decide +kernel) rfl
theorem bw_371 : (Jvm.Cond.classLink "BadgewoodLaw" (18 : Nat) "java/lang/IllegalArgumentException") ∈ BW := bw_of 401 (by decide +kernel) rfl
theorem bw_372 : (Jvm.Cond.classLink "BadgewoodLaw" (21 : Nat) "java/lang/IllegalStateException") ∈ BW := bw_of 402 (by decide +kernel) rfl
theorem bw_373 : (Jvm.Cond.methodLink "BadgewoodLaw" (9 : Nat) ({ cls := "BadgewoodLaw", name := "does", desc := "(LBadgewood;IIIII)I" } : Jvm.MethodName)) ∈ BW := bw_of 403 (by decide +kernel) rfl
theorem bw_374 : (Jvm.Cond.static ({ cls := "BadgewoodLaw", name := "does", desc := "(LBadgewood;IIIII)I" } : Jvm.MethodName)) ∈ BW := bw_of 404 (by decide +kernel) rfl
set_option maxRecDepth 100000 in
set_option maxHeartbeats 4000000 in
theorem bw_375 : (Jvm.Cond.code ({ cls := "BadgewoodLaw", name := "does", desc := "(LBadgewood;IIIII)I" } : Jvm.MethodName) method_5_code (6 : Nat) (Option.some Jvm.ClassFile.FieldType.int)) ∈ BW := List.mem_filter.mpr ⟨tb_2 (List.mem_of_getElem? (i := 135) rfl), rfl⟩
theorem bw_376 : (Jvm.Cond.methodLink "BadgewoodLaw" (24 : Nat) ({ cls := "Badgewood", name := "troop", desc := "(III)I" } : Jvm.MethodName)) ∈ BW := bw_of 406 (by decide +kernel) rfl
theorem bw_377 : (Jvm.Cond.instanceMethod ({ cls := "Badgewood", name := "troop", desc := "(III)I" } : Jvm.MethodName)) ∈ BW := bw_of 407 (by decide +kernel) rfl
theorem bw_378 : (Jvm.Cond.selects "Badgewood" ({ cls := "Badgewood", name := "troop", desc := "(III)I" } : Jvm.MethodName) ({ cls := "Badgewood", name := "troop", desc := "(III)I" } : Jvm.MethodName)) ∈ BW := bw_of 408 (by decide +kernel) rfl
theorem bw_379 : (Jvm.Cond.code ({ cls := "Badgewood", name := "troop", desc := "(III)I" } : Jvm.MethodName) prog_1_method_2_code (5 : Nat) (Option.some Jvm.ClassFile.FieldType.int)) ∈ BW := bw_of 409 (by decide +kernel) rfl
theorem bw_380 : (Jvm.Cond.methodLink "Badgewood" (47 : Nat) ({ cls := "Badgewood", name := "requireRoom", desc := "(II)V" } : Jvm.MethodName)) ∈ BW := bw_of 410 (by decide +kernel) rfl
theorem bw_381 : (Jvm.Cond.static ({ cls := "Badgewood", name := "requireRoom", desc := "(II)V" } : Jvm.MethodName)) ∈ BW := bw_of 411 (by decide +kernel) rfl
theorem bw_382 : (Jvm.Cond.code ({ cls := "Badgewood", name := "requireRoom", desc := "(II)V" } : Jvm.MethodName) prog_1_method_32_code (2 : Nat) (Option.none : Option Jvm.ClassFile.FieldType)) ∈ BW := bw_of 412 (by decide +kernel) rfl
theorem bw_383 : (Jvm.Cond.classLink "Badgewood" (78 : Nat) "java/lang/IllegalStateException") ∈ BW := bw_of 413 (by decide +kernel) rfl
theorem bw_384 : (Jvm.Cond.instantiable "java/lang/IllegalStateException" (6 : Nat)) ∈ BW := bw_of 414 (by decide +kernel) rfl
theorem nw_385 : (Jvm.Cond.castable "java/lang/IllegalStateException" "java/lang/IllegalStateException") ∈ NW := nw_of 415 (by decide +kernel) rfl
theorem bw_386 : (Jvm.Cond.selects "java/lang/IllegalStateException" ({ cls := "java/lang/Throwable", name := "fillInStackTrace", desc := "(I)Ljava/lang/Throwable;" } : Jvm.MethodName) ({ cls := "java/lang/Throwable", name := "fillInStackTrace", desc := "(I)Ljava/lang/Throwable;" } : Jvm.MethodName)) ∈ BW := bw_of 416 (by decide +kernel) rfl
theorem bw_393 : (Jvm.Cond.methodLink "Badgewood" (82 : Nat) ({ cls := "java/lang/IllegalStateException", name := "<init>", desc := "(Ljava/lang/String;)V" } : Jvm.MethodName)) ∈ BW := bw_of 423 (by decide +kernel) rfl
theorem bw_394 : (Jvm.Cond.instanceMethod ({ cls := "java/lang/IllegalStateException", name := "<init>", desc := "(Ljava/lang/String;)V" } : Jvm.MethodName)) ∈ BW := bw_of 424 (by decide +kernel) rfl
theorem bw_395 : (Jvm.Cond.code ({ cls := "java/lang/IllegalStateException", name := "<init>", desc := "(Ljava/lang/String;)V" } : Jvm.MethodName) prog_16_method_2_code (2 : Nat) (Option.none : Option Jvm.ClassFile.FieldType)) ∈ BW := bw_of 425 (by decide +kernel) rfl
theorem bw_396 : (Jvm.Cond.methodLink "java/lang/IllegalStateException" (7 : Nat) ({ cls := "java/lang/RuntimeException", name := "<init>", desc := "(Ljava/lang/String;)V" } : Jvm.MethodName)) ∈ BW := bw_of 426 (by decide +kernel) rfl
theorem bw_399 : (Jvm.Cond.instantiable "Badgewood$Troop" (4 : Nat)) ∈ BW := bw_of 429 (by decide +kernel) rfl
theorem bw_400 : (Jvm.Cond.methodLink "Badgewood" (53 : Nat) ({ cls := "Badgewood$Troop", name := "<init>", desc := "(IIII)V" } : Jvm.MethodName)) ∈ BW := bw_of 430 (by decide +kernel) rfl
theorem bw_401 : (Jvm.Cond.instanceMethod ({ cls := "Badgewood$Troop", name := "<init>", desc := "(IIII)V" } : Jvm.MethodName)) ∈ BW := bw_of 431 (by decide +kernel) rfl
theorem bw_402 : (Jvm.Cond.code ({ cls := "Badgewood$Troop", name := "<init>", desc := "(IIII)V" } : Jvm.MethodName) prog_9_method_1_code (5 : Nat) (Option.none : Option Jvm.ClassFile.FieldType)) ∈ BW := bw_of 432 (by decide +kernel) rfl
theorem bw_403 : (Jvm.Cond.methodLink "Badgewood$Troop" (1 : Nat) ({ cls := "java/lang/Object", name := "<init>", desc := "()V" } : Jvm.MethodName)) ∈ BW := bw_of 433 (by decide +kernel) rfl
theorem bw_404 : (Jvm.Cond.fieldLink "Badgewood$Troop" (7 : Nat) "Badgewood$Troop" "number" "I") ∈ BW := bw_of 434 (by decide +kernel) rfl
theorem bw_405 : (Jvm.Cond.fieldLink "Badgewood" (112 : Nat) "Badgewood$Troop" "number" "I") ∈ BW := bw_of 435 (by decide +kernel) rfl
theorem bw_406 : (Jvm.Cond.fieldLink "Badgewood$Troop" (13 : Nat) "Badgewood$Troop" "from" "I") ∈ BW := bw_of 436 (by decide +kernel) rfl
theorem bw_407 : (Jvm.Cond.fieldLink "Badgewood$Troop" (16 : Nat) "Badgewood$Troop" "to" "I") ∈ BW := bw_of 437 (by decide +kernel) rfl
theorem bw_408 : (Jvm.Cond.fieldLink "Badgewood$Troop" (19 : Nat) "Badgewood$Troop" "room" "I") ∈ BW := bw_of 438 (by decide +kernel) rfl
theorem bw_409 : (Jvm.Cond.fieldLink "Badgewood" (310 : Nat) "Badgewood$Troop" "room" "I") ∈ BW := bw_of 439 (by decide +kernel) rfl
theorem bw_419 : (Jvm.Cond.methodLink "Badgewood" (56 : Nat) ({ cls := "java/util/ArrayList", name := "add", desc := "(Ljava/lang/Object;)Z" } : Jvm.MethodName)) ∈ BW := bw_of 449 (by decide +kernel) rfl
theorem bw_420 : (Jvm.Cond.instanceMethod ({ cls := "java/util/ArrayList", name := "add", desc := "(Ljava/lang/Object;)Z" } : Jvm.MethodName)) ∈ BW := bw_of 450 (by decide +kernel) rfl
theorem bw_421 : (Jvm.Cond.selects "java/util/ArrayList" ({ cls := "java/util/ArrayList", name := "add", desc := "(Ljava/lang/Object;)Z" } : Jvm.MethodName) ({ cls := "java/util/ArrayList", name := "add", desc := "(Ljava/lang/Object;)Z" } : Jvm.MethodName)) ∈ BW := bw_of 451 (by decide +kernel) rfl
theorem bw_422 : (Jvm.Cond.code ({ cls := "java/util/ArrayList", name := "add", desc := "(Ljava/lang/Object;)Z" } : Jvm.MethodName) prog_27_method_25_code (2 : Nat) (Option.some Jvm.ClassFile.FieldType.boolean)) ∈ BW := bw_of 452 (by decide +kernel) rfl
theorem bw_423 : (Jvm.Cond.methodLink "java/util/ArrayList" (131 : Nat) ({ cls := "java/util/ArrayList", name := "add", desc := "(Ljava/lang/Object;[Ljava/lang/Object;I)V" } : Jvm.MethodName)) ∈ BW := bw_of 453 (by decide +kernel) rfl
theorem bw_425 : (Jvm.Cond.instanceMethod ({ cls := "java/util/ArrayList", name := "add", desc := "(Ljava/lang/Object;[Ljava/lang/Object;I)V" } : Jvm.MethodName)) ∈ BW := bw_of 455 (by decide +kernel) rfl
theorem bw_426 : (Jvm.Cond.code ({ cls := "java/util/ArrayList", name := "add", desc := "(Ljava/lang/Object;[Ljava/lang/Object;I)V" } : Jvm.MethodName) prog_27_method_24_code (4 : Nat) (Option.none : Option Jvm.ClassFile.FieldType)) ∈ BW := bw_of 456 (by decide +kernel) rfl
theorem bw_427 : (Jvm.Cond.methodLink "java/util/ArrayList" (129 : Nat) ({ cls := "java/util/ArrayList", name := "grow", desc := "()[Ljava/lang/Object;" } : Jvm.MethodName)) ∈ BW := bw_of 457 (by decide +kernel) rfl
theorem bw_429 : (Jvm.Cond.instanceMethod ({ cls := "java/util/ArrayList", name := "grow", desc := "()[Ljava/lang/Object;" } : Jvm.MethodName)) ∈ BW := bw_of 459 (by decide +kernel) rfl
theorem bw_430 : (Jvm.Cond.code ({ cls := "java/util/ArrayList", name := "grow", desc := "()[Ljava/lang/Object;" } : Jvm.MethodName) prog_27_method_7_code (1 : Nat) (Option.some (Jvm.ClassFile.FieldType.array (Jvm.ClassFile.FieldType.object "java/lang/Object")))) ∈ BW := bw_of 460 (by decide +kernel) rfl
theorem bw_431 : (Jvm.Cond.methodLink "java/util/ArrayList" (69 : Nat) ({ cls := "java/util/ArrayList", name := "grow", desc := "(I)[Ljava/lang/Object;" } : Jvm.MethodName)) ∈ BW := bw_of 461 (by decide +kernel) rfl
theorem bw_433 : (Jvm.Cond.instanceMethod ({ cls := "java/util/ArrayList", name := "grow", desc := "(I)[Ljava/lang/Object;" } : Jvm.MethodName)) ∈ BW := bw_of 463 (by decide +kernel) rfl
theorem bw_434 : (Jvm.Cond.code ({ cls := "java/util/ArrayList", name := "grow", desc := "(I)[Ljava/lang/Object;" } : Jvm.MethodName) prog_27_method_6_code (4 : Nat) (Option.some (Jvm.ClassFile.FieldType.array (Jvm.ClassFile.FieldType.object "java/lang/Object")))) ∈ BW := bw_of 464 (by decide +kernel) rfl
theorem bw_435 : (Jvm.Cond.methodLink "java/util/ArrayList" (73 : Nat) ({ cls := "jdk/internal/util/ArraysSupport", name := "newLength", desc := "(III)I" } : Jvm.MethodName)) ∈ BW := bw_of 465 (by decide +kernel) rfl
theorem bw_436 : (Jvm.Cond.static ({ cls := "jdk/internal/util/ArraysSupport", name := "newLength", desc := "(III)I" } : Jvm.MethodName)) ∈ BW := bw_of 466 (by decide +kernel) rfl
theorem bw_437 : (Jvm.Cond.code ({ cls := "jdk/internal/util/ArraysSupport", name := "newLength", desc := "(III)I" } : Jvm.MethodName) prog_34_method_27_code (4 : Nat) (Option.some Jvm.ClassFile.FieldType.int)) ∈ BW := bw_of 467 (by decide +kernel) rfl
theorem bw_438 : (Jvm.Cond.methodLink "jdk/internal/util/ArraysSupport" (194 : Nat) ({ cls := "java/lang/Math", name := "max", desc := "(II)I" } : Jvm.MethodName)) ∈ BW := bw_of 468 (by decide +kernel) rfl
theorem bw_439 : (Jvm.Cond.static ({ cls := "java/lang/Math", name := "max", desc := "(II)I" } : Jvm.MethodName)) ∈ BW := bw_of 469 (by decide +kernel) rfl
theorem bw_440 : (Jvm.Cond.code ({ cls := "java/lang/Math", name := "max", desc := "(II)I" } : Jvm.MethodName) prog_20_method_65_code (2 : Nat) (Option.some Jvm.ClassFile.FieldType.int)) ∈ BW := bw_of 470 (by decide +kernel) rfl
theorem bw_441 : (Jvm.Cond.constant "jdk/internal/util/ArraysSupport" (200 : Nat) (2147483639 : Int32)) ∈ BW := bw_of 471 (by decide +kernel) rfl
theorem bw_442 : (Jvm.Cond.methodLink "jdk/internal/util/ArraysSupport" (201 : Nat) ({ cls := "jdk/internal/util/ArraysSupport", name := "hugeLength", desc := "(II)I" } : Jvm.MethodName)) ∈ BW := bw_of 472 (by decide +kernel) rfl
theorem bw_443 : (Jvm.Cond.static ({ cls := "jdk/internal/util/ArraysSupport", name := "hugeLength", desc := "(II)I" } : Jvm.MethodName)) ∈ BW := bw_of 473 (by decide +kernel) rfl
theorem bw_444 : (Jvm.Cond.code ({ cls := "jdk/internal/util/ArraysSupport", name := "hugeLength", desc := "(II)I" } : Jvm.MethodName) prog_34_method_28_code (3 : Nat) (Option.some Jvm.ClassFile.FieldType.int)) ∈ BW := bw_of 474 (by decide +kernel) rfl
theorem bw_445 : (Jvm.Cond.methodLink "java/util/ArrayList" (66 : Nat) ({ cls := "java/util/Arrays", name := "copyOf", desc := "([Ljava/lang/Object;I)[Ljava/lang/Object;" } : Jvm.MethodName)) ∈ BW := bw_of 475 (by decide +kernel) rfl
theorem bw_446 : (Jvm.Cond.static ({ cls := "java/util/Arrays", name := "copyOf", desc := "([Ljava/lang/Object;I)[Ljava/lang/Object;" } : Jvm.MethodName)) ∈ BW := bw_of 476 (by decide +kernel) rfl
theorem bw_447 : (Jvm.Cond.code ({ cls := "java/util/Arrays", name := "copyOf", desc := "([Ljava/lang/Object;I)[Ljava/lang/Object;" } : Jvm.MethodName) prog_28_method_119_code (2 : Nat) (Option.some (Jvm.ClassFile.FieldType.array (Jvm.ClassFile.FieldType.object "java/lang/Object")))) ∈ BW := bw_of 477 (by decide +kernel) rfl
theorem bw_448 : (Jvm.Cond.methodLink "java/util/Arrays" (86 : Nat) ({ cls := "java/lang/Object", name := "getClass", desc := "()Ljava/lang/Class;" } : Jvm.MethodName)) ∈ BW := bw_of 478 (by decide +kernel) rfl
theorem bw_449 : (Jvm.Cond.instanceMethod ({ cls := "java/lang/Object", name := "getClass", desc := "()Ljava/lang/Class;" } : Jvm.MethodName)) ∈ BW := bw_of 479 (by decide +kernel) rfl
theorem bw_450 : (Jvm.Cond.sameMethod "java/lang/Object" "java/lang/Object" "getClass" "()Ljava/lang/Class;") ∈ BW := bw_of 480 (by decide +kernel) rfl
theorem bw_451 : (Jvm.Cond.selects "Badgewood" ({ cls := "java/lang/Object", name := "getClass", desc := "()Ljava/lang/Class;" } : Jvm.MethodName) ({ cls := "java/lang/Object", name := "getClass", desc := "()Ljava/lang/Class;" } : Jvm.MethodName)) ∈ BW := bw_of 481 (by decide +kernel) rfl
theorem bw_452 : (Jvm.Cond.selects "Badgewood$Badge" ({ cls := "java/lang/Object", name := "getClass", desc := "()Ljava/lang/Class;" } : Jvm.MethodName) ({ cls := "java/lang/Object", name := "getClass", desc := "()Ljava/lang/Class;" } : Jvm.MethodName)) ∈ BW := bw_of 482 (by decide +kernel) rfl
theorem bw_453 : (Jvm.Cond.selects "Badgewood$Child" ({ cls := "java/lang/Object", name := "getClass", desc := "()Ljava/lang/Class;" } : Jvm.MethodName) ({ cls := "java/lang/Object", name := "getClass", desc := "()Ljava/lang/Class;" } : Jvm.MethodName)) ∈ BW := bw_of 483 (by decide +kernel) rfl
theorem bw_454 : (Jvm.Cond.selects "Badgewood$Course" ({ cls := "java/lang/Object", name := "getClass", desc := "()Ljava/lang/Class;" } : Jvm.MethodName) ({ cls := "java/lang/Object", name := "getClass", desc := "()Ljava/lang/Class;" } : Jvm.MethodName)) ∈ BW := bw_of 484 (by decide +kernel) rfl
theorem bw_455 : (Jvm.Cond.selects "Badgewood$Edition" ({ cls := "java/lang/Object", name := "getClass", desc := "()Ljava/lang/Class;" } : Jvm.MethodName) ({ cls := "java/lang/Object", name := "getClass", desc := "()Ljava/lang/Class;" } : Jvm.MethodName)) ∈ BW := bw_of 485 (by decide +kernel) rfl
theorem bw_456 : (Jvm.Cond.selects "Badgewood$Event" ({ cls := "java/lang/Object", name := "getClass", desc := "()Ljava/lang/Class;" } : Jvm.MethodName) ({ cls := "java/lang/Object", name := "getClass", desc := "()Ljava/lang/Class;" } : Jvm.MethodName)) ∈ BW := bw_of 486 (by decide +kernel) rfl
theorem bw_457 : (Jvm.Cond.selects "Badgewood$Leader" ({ cls := "java/lang/Object", name := "getClass", desc := "()Ljava/lang/Class;" } : Jvm.MethodName) ({ cls := "java/lang/Object", name := "getClass", desc := "()Ljava/lang/Class;" } : Jvm.MethodName)) ∈ BW := bw_of 487 (by decide +kernel) rfl
theorem bw_458 : (Jvm.Cond.selects "Badgewood$Need" ({ cls := "java/lang/Object", name := "getClass", desc := "()Ljava/lang/Class;" } : Jvm.MethodName) ({ cls := "java/lang/Object", name := "getClass", desc := "()Ljava/lang/Class;" } : Jvm.MethodName)) ∈ BW := bw_of 488 (by decide +kernel) rfl
theorem bw_459 : (Jvm.Cond.selects "Badgewood$Troop" ({ cls := "java/lang/Object", name := "getClass", desc := "()Ljava/lang/Class;" } : Jvm.MethodName) ({ cls := "java/lang/Object", name := "getClass", desc := "()Ljava/lang/Class;" } : Jvm.MethodName)) ∈ BW := bw_of 489 (by decide +kernel) rfl
theorem bw_460 : (Jvm.Cond.selects "java/lang/IllegalArgumentException" ({ cls := "java/lang/Object", name := "getClass", desc := "()Ljava/lang/Class;" } : Jvm.MethodName) ({ cls := "java/lang/Object", name := "getClass", desc := "()Ljava/lang/Class;" } : Jvm.MethodName)) ∈ BW := bw_of 490 (by decide +kernel) rfl
theorem bw_461 : (Jvm.Cond.selects "java/lang/IllegalStateException" ({ cls := "java/lang/Object", name := "getClass", desc := "()Ljava/lang/Class;" } : Jvm.MethodName) ({ cls := "java/lang/Object", name := "getClass", desc := "()Ljava/lang/Class;" } : Jvm.MethodName)) ∈ BW := bw_of 491 (by decide +kernel) rfl
theorem bw_462 : (Jvm.Cond.selects "java/lang/IndexOutOfBoundsException" ({ cls := "java/lang/Object", name := "getClass", desc := "()Ljava/lang/Class;" } : Jvm.MethodName) ({ cls := "java/lang/Object", name := "getClass", desc := "()Ljava/lang/Class;" } : Jvm.MethodName)) ∈ BW := bw_of 492 (by decide +kernel) rfl
theorem bw_463 : (Jvm.Cond.selects "java/util/ArrayList" ({ cls := "java/lang/Object", name := "getClass", desc := "()Ljava/lang/Class;" } : Jvm.MethodName) ({ cls := "java/lang/Object", name := "getClass", desc := "()Ljava/lang/Class;" } : Jvm.MethodName)) ∈ BW := bw_of 493 (by decide +kernel) rfl
theorem bw_464 : (Jvm.Cond.native ({ cls := "java/lang/Object", name := "getClass", desc := "()Ljava/lang/Class;" } : Jvm.MethodName)) ∈ BW := bw_of 494 (by decide +kernel) rfl
theorem bw_465 : (Jvm.Cond.methodLink "java/util/Arrays" (300 : Nat) ({ cls := "java/util/Arrays", name := "copyOf", desc := "([Ljava/lang/Object;ILjava/lang/Class;)[Ljava/lang/Object;" } : Jvm.MethodName)) ∈ BW := bw_of 495 (by decide +kernel) rfl
theorem bw_466 : (Jvm.Cond.static ({ cls := "java/util/Arrays", name := "copyOf", desc := "([Ljava/lang/Object;ILjava/lang/Class;)[Ljava/lang/Object;" } : Jvm.MethodName)) ∈ BW := bw_of 496 (by decide +kernel) rfl
theorem bw_467 : (Jvm.Cond.code ({ cls := "java/util/Arrays", name := "copyOf", desc := "([Ljava/lang/Object;ILjava/lang/Class;)[Ljava/lang/Object;" } : Jvm.MethodName) prog_28_method_120_code (4 : Nat) (Option.some (Jvm.ClassFile.FieldType.array (Jvm.ClassFile.FieldType.object "java/lang/Object")))) ∈ BW := bw_of 497 (by decide +kernel) rfl
theorem bw_468 : (Jvm.Cond.classLink "java/util/Arrays" (110 : Nat) "[Ljava/lang/Object;") ∈ BW := bw_of 498 (by decide +kernel) rfl
theorem nw_469 : (Jvm.Cond.arrayOver (Jvm.ClassFile.FieldType.object "java/lang/Object")) ∈ NW := nw_of 499 (by decide +kernel) rfl
theorem bw_470 : (Jvm.Cond.classLink "java/util/Arrays" (2 : Nat) "java/lang/Object") ∈ BW := bw_of 500 (by decide +kernel) rfl
theorem bw_471 : (Jvm.Cond.methodLink "java/util/Arrays" (304 : Nat) ({ cls := "java/lang/Math", name := "min", desc := "(II)I" } : Jvm.MethodName)) ∈ BW := bw_of 501 (by decide +kernel) rfl
theorem bw_472 : (Jvm.Cond.static ({ cls := "java/lang/Math", name := "min", desc := "(II)I" } : Jvm.MethodName)) ∈ BW := bw_of 502 (by decide +kernel) rfl
theorem bw_473 : (Jvm.Cond.code ({ cls := "java/lang/Math", name := "min", desc := "(II)I" } : Jvm.MethodName) prog_20_method_69_code (2 : Nat) (Option.some Jvm.ClassFile.FieldType.int)) ∈ BW := bw_of 503 (by decide +kernel) rfl
theorem bw_474 : (Jvm.Cond.methodLink "java/util/Arrays" (150 : Nat) ({ cls := "java/lang/System", name := "arraycopy", desc := "(Ljava/lang/Object;ILjava/lang/Object;II)V" } : Jvm.MethodName)) ∈ BW := bw_of 504 (by decide +kernel) rfl
theorem bw_475 : (Jvm.Cond.static ({ cls := "java/lang/System", name := "arraycopy", desc := "(Ljava/lang/Object;ILjava/lang/Object;II)V" } : Jvm.MethodName)) ∈ BW := bw_of 505 (by decide +kernel) rfl
theorem bw_476 : (Jvm.Cond.native ({ cls := "java/lang/System", name := "arraycopy", desc := "(Ljava/lang/Object;ILjava/lang/Object;II)V" } : Jvm.MethodName)) ∈ BW := bw_of 506 (by decide +kernel) rfl
theorem bw_477 : (Jvm.Cond.methodLink "java/util/ArrayList" (79 : Nat) ({ cls := "java/lang/Math", name := "max", desc := "(II)I" } : Jvm.MethodName)) ∈ BW := bw_of 507 (by decide +kernel) rfl
theorem bw_478 : (Jvm.Cond.classLink "java/util/ArrayList" (7 : Nat) "java/lang/Object") ∈ BW := bw_of 508 (by decide +kernel) rfl
theorem bw_479 : (Jvm.Cond.methodLink "BadgewoodLaw" (30 : Nat) ({ cls := "Badgewood", name := "child", desc := "(I)I" } : Jvm.MethodName)) ∈ BW := bw_of 509 (by decide +kernel) rfl
theorem bw_480 : (Jvm.Cond.instanceMethod ({ cls := "Badgewood", name := "child", desc := "(I)I" } : Jvm.MethodName)) ∈ BW := bw_of 510 (by decide +kernel) rfl
theorem bw_481 : (Jvm.Cond.selects "Badgewood" ({ cls := "Badgewood", name := "child", desc := "(I)I" } : Jvm.MethodName) ({ cls := "Badgewood", name := "child", desc := "(I)I" } : Jvm.MethodName)) ∈ BW := bw_of 511 (by decide +kernel) rfl
theorem bw_482 : (Jvm.Cond.code ({ cls := "Badgewood", name := "child", desc := "(I)I" } : Jvm.MethodName) prog_1_method_3_code (3 : Nat) (Option.some Jvm.ClassFile.FieldType.int)) ∈ BW := bw_of 512 (by decide +kernel) rfl
theorem bw_483 : (Jvm.Cond.instantiable "Badgewood$Child" (14 : Nat)) ∈ BW := bw_of 513 (by decide +kernel) rfl
theorem bw_484 : (Jvm.Cond.methodLink "Badgewood" (62 : Nat) ({ cls := "Badgewood$Child", name := "<init>", desc := "(II)V" } : Jvm.MethodName)) ∈ BW := bw_of 514 (by decide +kernel) rfl
theorem bw_485 : (Jvm.Cond.instanceMethod ({ cls := "Badgewood$Child", name := "<init>", desc := "(II)V" } : Jvm.MethodName)) ∈ BW := bw_of 515 (by decide +kernel) rfl
theorem bw_486 : (Jvm.Cond.code ({ cls := "Badgewood$Child", name := "<init>", desc := "(II)V" } : Jvm.MethodName) prog_3_method_1_code (3 : Nat) (Option.none : Option Jvm.ClassFile.FieldType)) ∈ BW := bw_of 516 (by decide +kernel) rfl
theorem bw_487 : (Jvm.Cond.methodLink "Badgewood$Child" (3 : Nat) ({ cls := "java/lang/Object", name := "<init>", desc := "()V" } : Jvm.MethodName)) ∈ BW := bw_of 517 (by decide +kernel) rfl
theorem bw_488 : (Jvm.Cond.classLink "Badgewood$Child" (31 : Nat) "Badgewood$Course") ∈ BW := bw_of 518 (by decide +kernel) rfl
theorem nw_489 : (Jvm.Cond.arrayOver (Jvm.ClassFile.FieldType.object "Badgewood$Course")) ∈ NW := nw_of 519 (by decide +kernel) rfl
theorem bw_490 : (Jvm.Cond.fieldLink "Badgewood$Child" (37 : Nat) "Badgewood$Child" "number" "I") ∈ BW := bw_of 520 (by decide +kernel) rfl
theorem bw_491 : (Jvm.Cond.fieldLink "Badgewood" (326 : Nat) "Badgewood$Child" "number" "I") ∈ BW := bw_of 521 (by decide +kernel) rfl
theorem bw_492 : (Jvm.Cond.fieldLink "Badgewood$Child" (40 : Nat) "Badgewood$Child" "age" "I") ∈ BW := bw_of 522 (by decide +kernel) rfl
theorem bw_493 : (Jvm.Cond.fieldLink "Badgewood" (85 : Nat) "Badgewood$Child" "age" "I") ∈ BW := bw_of 523 (by decide +kernel) rfl
theorem bw_494 : (Jvm.Cond.fieldLink "Badgewood$Child" (9 : Nat) "Badgewood$Child" "troop" "I") ∈ BW := bw_of 524 (by decide +kernel) rfl
theorem bw_495 : (Jvm.Cond.fieldLink "Badgewood" (72 : Nat) "Badgewood$Child" "troop" "I") ∈ BW := bw_of 525 (by decide +kernel) rfl
theorem bw_496 : (Jvm.Cond.fieldLink "Badgewood$Child" (15 : Nat) "Badgewood$Child" "awaited" "I") ∈ BW := bw_of 526 (by decide +kernel) rfl
theorem bw_497 : (Jvm.Cond.fieldLink "Badgewood" (75 : Nat) "Badgewood$Child" "awaited" "I") ∈ BW := bw_of 527 (by decide +kernel) rfl
theorem bw_498 : (Jvm.Cond.fieldLink "Badgewood$Child" (18 : Nat) "Badgewood$Child" "patrol" "I") ∈ BW := bw_of 528 (by decide +kernel) rfl
theorem bw_499 : (Jvm.Cond.fieldLink "Badgewood" (109 : Nat) "Badgewood$Child" "patrol" "I") ∈ BW := bw_of 529 (by decide +kernel) rfl
theorem bw_500 : (Jvm.Cond.fieldLink "Badgewood" (317 : Nat) "Badgewood$Child" "ticket" "I") ∈ BW := bw_of 530 (by decide +kernel) rfl
theorem bw_501 : (Jvm.Cond.fieldLink "Badgewood" (268 : Nat) "Badgewood$Child" "boxes" "I") ∈ BW := bw_of 531 (by decide +kernel) rfl
theorem bw_502 : (Jvm.Cond.fieldLink "Badgewood" (260 : Nat) "Badgewood$Child" "coins" "I") ∈ BW := bw_of 532 (by decide +kernel) rfl
theorem bw_503 : (Jvm.Cond.fieldLink "Badgewood$Child" (21 : Nat) "Badgewood$Child" "creditor" "I") ∈ BW := bw_of 533 (by decide +kernel) rfl
theorem bw_504 : (Jvm.Cond.fieldLink "Badgewood" (263 : Nat) "Badgewood$Child" "creditor" "I") ∈ BW := bw_of 534 (by decide +kernel) rfl
theorem bw_505 : (Jvm.Cond.fieldLink "Badgewood$Child" (49 : Nat) "Badgewood$Child" "proven" "I") ∈ BW := bw_of 535 (by decide +kernel) rfl
theorem bw_506 : (Jvm.Cond.fieldLink "Badgewood" (212 : Nat) "Badgewood$Child" "proven" "I") ∈ BW := bw_of 536 (by decide +kernel) rfl
theorem bw_507 : (Jvm.Cond.fieldLink "Badgewood$Child" (46 : Nat) "Badgewood$Child" "proofs" "I") ∈ BW := bw_of 537 (by decide +kernel) rfl
theorem bw_508 : (Jvm.Cond.fieldLink "Badgewood$Child" (24 : Nat) "Badgewood$Child" "skillOfProof" "[I") ∈ BW := bw_of 538 (by decide +kernel) rfl
theorem bw_509 : (Jvm.Cond.fieldLink "Badgewood$Child" (28 : Nat) "Badgewood$Child" "dayOfProof" "[I") ∈ BW := bw_of 539 (by decide +kernel) rfl
theorem bw_510 : (Jvm.Cond.fieldLink "Badgewood$Child" (33 : Nat) "Badgewood$Child" "courses" "[LBadgewood$Course;") ∈ BW := bw_of 540 (by decide +kernel) rfl
theorem bw_540 : (Jvm.Cond.arrayClass Jvm.ClassFile.FieldType.int) ∈ BW := bw_of 570 (by decide +kernel) rfl
theorem bw_541 : (Jvm.Cond.methodLink "BadgewoodLaw" (34 : Nat) ({ cls := "Badgewood", name := "join", desc := "(II)I" } : Jvm.MethodName)) ∈ BW := bw_of 571 (by decide +kernel) rfl
theorem bw_542 : (Jvm.Cond.instanceMethod ({ cls := "Badgewood", name := "join", desc := "(II)I" } : Jvm.MethodName)) ∈ BW := bw_of 572 (by decide +kernel) rfl
theorem bw_543 : (Jvm.Cond.selects "Badgewood" ({ cls := "Badgewood", name := "join", desc := "(II)I" } : Jvm.MethodName) ({ cls := "Badgewood", name := "join", desc := "(II)I" } : Jvm.MethodName)) ∈ BW := bw_of 573 (by decide +kernel) rfl
theorem bw_544 : (Jvm.Cond.code ({ cls := "Badgewood", name := "join", desc := "(II)I" } : Jvm.MethodName) prog_1_method_4_code (5 : Nat) (Option.some Jvm.ClassFile.FieldType.int)) ∈ BW := bw_of 574 (by decide +kernel) rfl
theorem bw_546 : (Jvm.Cond.methodLink "Badgewood" (88 : Nat) ({ cls := "Badgewood$Troop", name := "isFor", desc := "(I)Z" } : Jvm.MethodName)) ∈ BW := bw_of 576 (by decide +kernel) rfl
theorem bw_547 : (Jvm.Cond.instanceMethod ({ cls := "Badgewood$Troop", name := "isFor", desc := "(I)Z" } : Jvm.MethodName)) ∈ BW := bw_of 577 (by decide +kernel) rfl
theorem bw_548 : (Jvm.Cond.selects "Badgewood$Troop" ({ cls := "Badgewood$Troop", name := "isFor", desc := "(I)Z" } : Jvm.MethodName) ({ cls := "Badgewood$Troop", name := "isFor", desc := "(I)Z" } : Jvm.MethodName)) ∈ BW := bw_of 578 (by decide +kernel) rfl
theorem bw_549 : (Jvm.Cond.code ({ cls := "Badgewood$Troop", name := "isFor", desc := "(I)Z" } : Jvm.MethodName) prog_9_method_2_code (2 : Nat) (Option.some Jvm.ClassFile.FieldType.boolean)) ∈ BW := bw_of 579 (by decide +kernel) rfl
theorem bw_551 : (Jvm.Cond.methodLink "Badgewood" (94 : Nat) ({ cls := "Badgewood", name := "comeInOrWait", desc := "(LBadgewood$Child;LBadgewood$Troop;)I" } : Jvm.MethodName)) ∈ BW := bw_of 581 (by decide +kernel) rfl
theorem bw_553 : (Jvm.Cond.instanceMethod ({ cls := "Badgewood", name := "comeInOrWait", desc := "(LBadgewood$Child;LBadgewood$Troop;)I" } : Jvm.MethodName)) ∈ BW := bw_of 583 (by decide +kernel) rfl
theorem bw_554 : (Jvm.Cond.code ({ cls := "Badgewood", name := "comeInOrWait", desc := "(LBadgewood$Child;LBadgewood$Troop;)I" } : Jvm.MethodName) prog_1_method_45_code (3 : Nat) (Option.some Jvm.ClassFile.FieldType.int)) ∈ BW := bw_of 584 (by decide +kernel) rfl
theorem bw_555 : (Jvm.Cond.methodLink "Badgewood" (313 : Nat) ({ cls := "Badgewood", name := "comeIn", desc := "(LBadgewood$Child;I)V" } : Jvm.MethodName)) ∈ BW := bw_of 585 (by decide +kernel) rfl
theorem bw_557 : (Jvm.Cond.instanceMethod ({ cls := "Badgewood", name := "comeIn", desc := "(LBadgewood$Child;I)V" } : Jvm.MethodName)) ∈ BW := bw_of 587 (by decide +kernel) rfl
theorem bw_558 : (Jvm.Cond.code ({ cls := "Badgewood", name := "comeIn", desc := "(LBadgewood$Child;I)V" } : Jvm.MethodName) prog_1_method_46_code (3 : Nat) (Option.none : Option Jvm.ClassFile.FieldType)) ∈ BW := bw_of 588 (by decide +kernel) rfl
theorem bw_559 : (Jvm.Cond.methodLink "Badgewood" (320 : Nat) ({ cls := "Badgewood", name := "smallestPatrol", desc := "(I)I" } : Jvm.MethodName)) ∈ BW := bw_of 589 (by decide +kernel) rfl
theorem bw_561 : (Jvm.Cond.instanceMethod ({ cls := "Badgewood", name := "smallestPatrol", desc := "(I)I" } : Jvm.MethodName)) ∈ BW := bw_of 591 (by decide +kernel) rfl
theorem bw_562 : (Jvm.Cond.code ({ cls := "Badgewood", name := "smallestPatrol", desc := "(I)I" } : Jvm.MethodName) prog_1_method_42_code (6 : Nat) (Option.some Jvm.ClassFile.FieldType.int)) ∈ BW := bw_of 592 (by decide +kernel) rfl
theorem bw_563 : (Jvm.Cond.methodLink "BadgewoodLaw" (38 : Nat) ({ cls := "Badgewood", name := "leave", desc := "(I)I" } : Jvm.MethodName)) ∈ BW := bw_of 593 (by decide +kernel) rfl
theorem bw_564 : (Jvm.Cond.instanceMethod ({ cls := "Badgewood", name := "leave", desc := "(I)I" } : Jvm.MethodName)) ∈ BW := bw_of 594 (by decide +kernel) rfl
theorem bw_565 : (Jvm.Cond.selects "Badgewood" ({ cls := "Badgewood", name := "leave", desc := "(I)I" } : Jvm.MethodName) ({ cls := "Badgewood", name := "leave", desc := "(I)I" } : Jvm.MethodName)) ∈ BW := bw_of 595 (by decide +kernel) rfl
theorem bw_566 : (Jvm.Cond.code ({ cls := "Badgewood", name := "leave", desc := "(I)I" } : Jvm.MethodName) prog_1_method_5_code (4 : Nat) (Option.some Jvm.ClassFile.FieldType.int)) ∈ BW := bw_of 596 (by decide +kernel) rfl
theorem bw_568 : (Jvm.Cond.methodLink "Badgewood" (100 : Nat) ({ cls := "Badgewood$Child", name := "goOut", desc := "()V" } : Jvm.MethodName)) ∈ BW := bw_of 598 (by decide +kernel) rfl
theorem bw_569 : (Jvm.Cond.instanceMethod ({ cls := "Badgewood$Child", name := "goOut", desc := "()V" } : Jvm.MethodName)) ∈ BW := bw_of 599 (by decide +kernel) rfl
theorem bw_570 : (Jvm.Cond.selects "Badgewood$Child" ({ cls := "Badgewood$Child", name := "goOut", desc := "()V" } : Jvm.MethodName) ({ cls := "Badgewood$Child", name := "goOut", desc := "()V" } : Jvm.MethodName)) ∈ BW := bw_of 600 (by decide +kernel) rfl
theorem bw_571 : (Jvm.Cond.code ({ cls := "Badgewood$Child", name := "goOut", desc := "()V" } : Jvm.MethodName) prog_3_method_2_code (1 : Nat) (Option.none : Option Jvm.ClassFile.FieldType)) ∈ BW := bw_of 601 (by decide +kernel) rfl
theorem bw_572 : (Jvm.Cond.methodLink "Badgewood" (103 : Nat) ({ cls := "Badgewood", name := "letFirstIn", desc := "(I)I" } : Jvm.MethodName)) ∈ BW := bw_of 602 (by decide +kernel) rfl
theorem bw_574 : (Jvm.Cond.instanceMethod ({ cls := "Badgewood", name := "letFirstIn", desc := "(I)I" } : Jvm.MethodName)) ∈ BW := bw_of 604 (by decide +kernel) rfl
theorem bw_575 : (Jvm.Cond.code ({ cls := "Badgewood", name := "letFirstIn", desc := "(I)I" } : Jvm.MethodName) prog_1_method_47_code (3 : Nat) (Option.some Jvm.ClassFile.FieldType.int)) ∈ BW := bw_of 605 (by decide +kernel) rfl
theorem bw_576 : (Jvm.Cond.methodLink "Badgewood" (323 : Nat) ({ cls := "Badgewood", name := "firstWaiting", desc := "(I)LBadgewood$Child;" } : Jvm.MethodName)) ∈ BW := bw_of 606 (by decide +kernel) rfl
theorem bw_578 : (Jvm.Cond.instanceMethod ({ cls := "Badgewood", name := "firstWaiting", desc := "(I)LBadgewood$Child;" } : Jvm.MethodName)) ∈ BW := bw_of 608 (by decide +kernel) rfl
theorem bw_579 : (Jvm.Cond.code ({ cls := "Badgewood", name := "firstWaiting", desc := "(I)LBadgewood$Child;" } : Jvm.MethodName) prog_1_method_48_code (5 : Nat) (Option.some (Jvm.ClassFile.FieldType.object "Badgewood$Child"))) ∈ BW := bw_of 609 (by decide +kernel) rfl
theorem bw_580 : (Jvm.Cond.methodLink "BadgewoodLaw" (41 : Nat) ({ cls := "Badgewood", name := "patrol", desc := "(II)I" } : Jvm.MethodName)) ∈ BW := bw_of 610 (by decide +kernel) rfl
theorem bw_581 : (Jvm.Cond.instanceMethod ({ cls := "Badgewood", name := "patrol", desc := "(II)I" } : Jvm.MethodName)) ∈ BW := bw_of 611 (by decide +kernel) rfl
theorem bw_582 : (Jvm.Cond.selects "Badgewood" ({ cls := "Badgewood", name := "patrol", desc := "(II)I" } : Jvm.MethodName) ({ cls := "Badgewood", name := "patrol", desc := "(II)I" } : Jvm.MethodName)) ∈ BW := bw_of 612 (by decide +kernel) rfl
theorem bw_583 : (Jvm.Cond.code ({ cls := "Badgewood", name := "patrol", desc := "(II)I" } : Jvm.MethodName) prog_1_method_6_code (5 : Nat) (Option.some Jvm.ClassFile.FieldType.int)) ∈ BW := bw_of 613 (by decide +kernel) rfl
theorem bw_585 : (Jvm.Cond.methodLink "BadgewoodLaw" (47 : Nat) ({ cls := "Badgewood", name := "pass", desc := "(I)I" } : Jvm.MethodName)) ∈ BW := bw_of 615 (by decide +kernel) rfl
theorem bw_586 : (Jvm.Cond.instanceMethod ({ cls := "Badgewood", name := "pass", desc := "(I)I" } : Jvm.MethodName)) ∈ BW := bw_of 616 (by decide +kernel) rfl
theorem bw_587 : (Jvm.Cond.selects "Badgewood" ({ cls := "Badgewood", name := "pass", desc := "(I)I" } : Jvm.MethodName) ({ cls := "Badgewood", name := "pass", desc := "(I)I" } : Jvm.MethodName)) ∈ BW := bw_of 617 (by decide +kernel) rfl
theorem bw_588 : (Jvm.Cond.code ({ cls := "Badgewood", name := "pass", desc := "(I)I" } : Jvm.MethodName) prog_1_method_8_code (2 : Nat) (Option.some Jvm.ClassFile.FieldType.int)) ∈ BW := bw_of 618 (by decide +kernel) rfl
theorem bw_590 : (Jvm.Cond.methodLink "BadgewoodLaw" (50 : Nat) ({ cls := "Badgewood", name := "season", desc := "()I" } : Jvm.MethodName)) ∈ BW := bw_of 620 (by decide +kernel) rfl
theorem bw_591 : (Jvm.Cond.instanceMethod ({ cls := "Badgewood", name := "season", desc := "()I" } : Jvm.MethodName)) ∈ BW := bw_of 621 (by decide +kernel) rfl
theorem bw_592 : (Jvm.Cond.selects "Badgewood" ({ cls := "Badgewood", name := "season", desc := "()I" } : Jvm.MethodName) ({ cls := "Badgewood", name := "season", desc := "()I" } : Jvm.MethodName)) ∈ BW := bw_of 622 (by decide +kernel) rfl
theorem bw_593 : (Jvm.Cond.code ({ cls := "Badgewood", name := "season", desc := "()I" } : Jvm.MethodName) prog_1_method_9_code (3 : Nat) (Option.some Jvm.ClassFile.FieldType.int)) ∈ BW := bw_of 623 (by decide +kernel) rfl
theorem bw_594 : (Jvm.Cond.methodLink "Badgewood" (128 : Nat) ({ cls := "Badgewood", name := "sendOutByAge", desc := "()I" } : Jvm.MethodName)) ∈ BW := bw_of 624 (by decide +kernel) rfl
theorem bw_596 : (Jvm.Cond.instanceMethod ({ cls := "Badgewood", name := "sendOutByAge", desc := "()I" } : Jvm.MethodName)) ∈ BW := bw_of 626 (by decide +kernel) rfl
theorem bw_597 : (Jvm.Cond.code ({ cls := "Badgewood", name := "sendOutByAge", desc := "()I" } : Jvm.MethodName) prog_1_method_49_code (3 : Nat) (Option.some Jvm.ClassFile.FieldType.int)) ∈ BW := bw_of 627 (by decide +kernel) rfl
theorem bw_598 : (Jvm.Cond.methodLink "Badgewood" (327 : Nat) ({ cls := "Badgewood", name := "sendOutOf", desc := "(LBadgewood$Troop;)I" } : Jvm.MethodName)) ∈ BW := bw_of 628 (by decide +kernel) rfl
theorem bw_600 : (Jvm.Cond.instanceMethod ({ cls := "Badgewood", name := "sendOutOf", desc := "(LBadgewood$Troop;)I" } : Jvm.MethodName)) ∈ BW := bw_of 630 (by decide +kernel) rfl
theorem bw_601 : (Jvm.Cond.code ({ cls := "Badgewood", name := "sendOutOf", desc := "(LBadgewood$Troop;)I" } : Jvm.MethodName) prog_1_method_50_code (5 : Nat) (Option.some Jvm.ClassFile.FieldType.int)) ∈ BW := bw_of 631 (by decide +kernel) rfl
theorem bw_602 : (Jvm.Cond.methodLink "Badgewood" (131 : Nat) ({ cls := "Badgewood", name := "fillUp", desc := "(LBadgewood$Troop;)V" } : Jvm.MethodName)) ∈ BW := bw_of 632 (by decide +kernel) rfl
theorem bw_604 : (Jvm.Cond.instanceMethod ({ cls := "Badgewood", name := "fillUp", desc := "(LBadgewood$Troop;)V" } : Jvm.MethodName)) ∈ BW := bw_of 634 (by decide +kernel) rfl
theorem bw_605 : (Jvm.Cond.code ({ cls := "Badgewood", name := "fillUp", desc := "(LBadgewood$Troop;)V" } : Jvm.MethodName) prog_1_method_51_code (4 : Nat) (Option.none : Option Jvm.ClassFile.FieldType)) ∈ BW := bw_of 635 (by decide +kernel) rfl
theorem bw_606 : (Jvm.Cond.methodLink "Badgewood" (135 : Nat) ({ cls := "Badgewood", name := "hasBit", desc := "(II)Z" } : Jvm.MethodName)) ∈ BW := bw_of 636 (by decide +kernel) rfl
theorem bw_607 : (Jvm.Cond.static ({ cls := "Badgewood", name := "hasBit", desc := "(II)Z" } : Jvm.MethodName)) ∈ BW := bw_of 637 (by decide +kernel) rfl
theorem bw_608 : (Jvm.Cond.code ({ cls := "Badgewood", name := "hasBit", desc := "(II)Z" } : Jvm.MethodName) prog_1_method_38_code (2 : Nat) (Option.some Jvm.ClassFile.FieldType.boolean)) ∈ BW := bw_of 638 (by decide +kernel) rfl
theorem bw_609 : (Jvm.Cond.methodLink "Badgewood" (139 : Nat) ({ cls := "Badgewood", name := "moveUp", desc := "(LBadgewood$Child;)V" } : Jvm.MethodName)) ∈ BW := bw_of 639 (by decide +kernel) rfl
theorem bw_611 : (Jvm.Cond.instanceMethod ({ cls := "Badgewood", name := "moveUp", desc := "(LBadgewood$Child;)V" } : Jvm.MethodName)) ∈ BW := bw_of 641 (by decide +kernel) rfl
theorem bw_612 : (Jvm.Cond.code ({ cls := "Badgewood", name := "moveUp", desc := "(LBadgewood$Child;)V" } : Jvm.MethodName) prog_1_method_52_code (3 : Nat) (Option.none : Option Jvm.ClassFile.FieldType)) ∈ BW := bw_of 642 (by decide +kernel) rfl
theorem bw_613 : (Jvm.Cond.methodLink "Badgewood" (143 : Nat) ({ cls := "java/lang/Integer", name := "bitCount", desc := "(I)I" } : Jvm.MethodName)) ∈ BW := bw_of 643 (by decide +kernel) rfl
theorem bw_614 : (Jvm.Cond.methodLink "BadgewoodLaw" (54 : Nat) ({ cls := "Badgewood", name := "leader", desc := "()I" } : Jvm.MethodName)) ∈ BW := bw_of 644 (by decide +kernel) rfl
theorem bw_615 : (Jvm.Cond.instanceMethod ({ cls := "Badgewood", name := "leader", desc := "()I" } : Jvm.MethodName)) ∈ BW := bw_of 645 (by decide +kernel) rfl
theorem bw_616 : (Jvm.Cond.selects "Badgewood" ({ cls := "Badgewood", name := "leader", desc := "()I" } : Jvm.MethodName) ({ cls := "Badgewood", name := "leader", desc := "()I" } : Jvm.MethodName)) ∈ BW := bw_of 646 (by decide +kernel) rfl
theorem bw_617 : (Jvm.Cond.code ({ cls := "Badgewood", name := "leader", desc := "()I" } : Jvm.MethodName) prog_1_method_10_code (1 : Nat) (Option.some Jvm.ClassFile.FieldType.int)) ∈ BW := bw_of 647 (by decide +kernel) rfl
theorem bw_618 : (Jvm.Cond.instantiable "Badgewood$Leader" (4 : Nat)) ∈ BW := bw_of 648 (by decide +kernel) rfl
theorem nw_619 : (Jvm.Cond.methodLinkNest "Badgewood" (150 : Nat) ({ cls := "Badgewood$Leader", name := "<init>", desc := "()V" } : Jvm.MethodName) "Badgewood") ∈ NW := nw_of 649 (by decide +kernel) rfl
theorem bw_620 : (Jvm.Cond.instanceMethod ({ cls := "Badgewood$Leader", name := "<init>", desc := "()V" } : Jvm.MethodName)) ∈ BW := bw_of 650 (by decide +kernel) rfl
theorem bw_621 : (Jvm.Cond.code ({ cls := "Badgewood$Leader", name := "<init>", desc := "()V" } : Jvm.MethodName) prog_7_method_1_code (1 : Nat) (Option.none : Option Jvm.ClassFile.FieldType)) ∈ BW := bw_of 651 (by decide +kernel) rfl
theorem bw_622 : (Jvm.Cond.methodLink "Badgewood$Leader" (3 : Nat) ({ cls := "java/lang/Object", name := "<init>", desc := "()V" } : Jvm.MethodName)) ∈ BW := bw_of 652 (by decide +kernel) rfl
theorem bw_623 : (Jvm.Cond.fieldLink "Badgewood$Leader" (9 : Nat) "Badgewood$Leader" "vettedFrom" "[I") ∈ BW := bw_of 653 (by decide +kernel) rfl
theorem bw_624 : (Jvm.Cond.fieldLink "Badgewood$Leader" (15 : Nat) "Badgewood$Leader" "vettedTo" "[I") ∈ BW := bw_of 654 (by decide +kernel) rfl
theorem bw_625 : (Jvm.Cond.fieldLink "Badgewood$Leader" (18 : Nat) "Badgewood$Leader" "permits" "[I") ∈ BW := bw_of 655 (by decide +kernel) rfl
theorem bw_626 : (Jvm.Cond.fieldLink "Badgewood" (168 : Nat) "Badgewood$Leader" "taught" "I") ∈ BW := bw_of 656 (by decide +kernel) rfl
theorem bw_636 : (Jvm.Cond.methodLink "BadgewoodLaw" (57 : Nat) ({ cls := "Badgewood", name := "vet", desc := "(IIII)V" } : Jvm.MethodName)) ∈ BW := bw_of 666 (by decide +kernel) rfl
theorem bw_637 : (Jvm.Cond.instanceMethod ({ cls := "Badgewood", name := "vet", desc := "(IIII)V" } : Jvm.MethodName)) ∈ BW := bw_of 667 (by decide +kernel) rfl
theorem bw_638 : (Jvm.Cond.selects "Badgewood" ({ cls := "Badgewood", name := "vet", desc := "(IIII)V" } : Jvm.MethodName) ({ cls := "Badgewood", name := "vet", desc := "(IIII)V" } : Jvm.MethodName)) ∈ BW := bw_of 668 (by decide +kernel) rfl
theorem bw_639 : (Jvm.Cond.code ({ cls := "Badgewood", name := "vet", desc := "(IIII)V" } : Jvm.MethodName) prog_1_method_11_code (6 : Nat) (Option.none : Option Jvm.ClassFile.FieldType)) ∈ BW := bw_of 669 (by decide +kernel) rfl
theorem bw_640 : (Jvm.Cond.methodLink "Badgewood" (151 : Nat) ({ cls := "Badgewood", name := "leaderAt", desc := "(I)LBadgewood$Leader;" } : Jvm.MethodName)) ∈ BW := bw_of 670 (by decide +kernel) rfl
theorem bw_642 : (Jvm.Cond.instanceMethod ({ cls := "Badgewood", name := "leaderAt", desc := "(I)LBadgewood$Leader;" } : Jvm.MethodName)) ∈ BW := bw_of 672 (by decide +kernel) rfl
theorem bw_643 : (Jvm.Cond.code ({ cls := "Badgewood", name := "leaderAt", desc := "(I)LBadgewood$Leader;" } : Jvm.MethodName) prog_1_method_35_code (2 : Nat) (Option.some (Jvm.ClassFile.FieldType.object "Badgewood$Leader"))) ∈ BW := bw_of 673 (by decide +kernel) rfl
theorem bw_644 : (Jvm.Cond.methodLink "Badgewood" (158 : Nat) ({ cls := "Badgewood$Leader", name := "setVetted", desc := "(III)V" } : Jvm.MethodName)) ∈ BW := bw_of 674 (by decide +kernel) rfl
theorem bw_645 : (Jvm.Cond.instanceMethod ({ cls := "Badgewood$Leader", name := "setVetted", desc := "(III)V" } : Jvm.MethodName)) ∈ BW := bw_of 675 (by decide +kernel) rfl
theorem bw_646 : (Jvm.Cond.selects "Badgewood$Leader" ({ cls := "Badgewood$Leader", name := "setVetted", desc := "(III)V" } : Jvm.MethodName) ({ cls := "Badgewood$Leader", name := "setVetted", desc := "(III)V" } : Jvm.MethodName)) ∈ BW := bw_of 676 (by decide +kernel) rfl
theorem bw_647 : (Jvm.Cond.code ({ cls := "Badgewood$Leader", name := "setVetted", desc := "(III)V" } : Jvm.MethodName) prog_7_method_2_code (4 : Nat) (Option.none : Option Jvm.ClassFile.FieldType)) ∈ BW := bw_of 677 (by decide +kernel) rfl
theorem bw_648 : (Jvm.Cond.methodLink "BadgewoodLaw" (61 : Nat) ({ cls := "Badgewood", name := "permit", desc := "(III)I" } : Jvm.MethodName)) ∈ BW := bw_of 678 (by decide +kernel) rfl
theorem bw_649 : (Jvm.Cond.instanceMethod ({ cls := "Badgewood", name := "permit", desc := "(III)I" } : Jvm.MethodName)) ∈ BW := bw_of 679 (by decide +kernel) rfl
theorem bw_650 : (Jvm.Cond.selects "Badgewood" ({ cls := "Badgewood", name := "permit", desc := "(III)I" } : Jvm.MethodName) ({ cls := "Badgewood", name := "permit", desc := "(III)I" } : Jvm.MethodName)) ∈ BW := bw_of 680 (by decide +kernel) rfl
theorem bw_651 : (Jvm.Cond.code ({ cls := "Badgewood", name := "permit", desc := "(III)I" } : Jvm.MethodName) prog_1_method_12_code (6 : Nat) (Option.some Jvm.ClassFile.FieldType.int)) ∈ BW := bw_of 681 (by decide +kernel) rfl
theorem bw_652 : (Jvm.Cond.methodLink "Badgewood" (161 : Nat) ({ cls := "Badgewood$Leader", name := "permitOf", desc := "(I)I" } : Jvm.MethodName)) ∈ BW := bw_of 682 (by decide +kernel) rfl
theorem bw_653 : (Jvm.Cond.methodLink "Badgewood" (164 : Nat) ({ cls := "Badgewood$Leader", name := "setPermit", desc := "(II)V" } : Jvm.MethodName)) ∈ BW := bw_of 683 (by decide +kernel) rfl
theorem bw_654 : (Jvm.Cond.instanceMethod ({ cls := "Badgewood$Leader", name := "setPermit", desc := "(II)V" } : Jvm.MethodName)) ∈ BW := bw_of 684 (by decide +kernel) rfl
theorem bw_655 : (Jvm.Cond.selects "Badgewood$Leader" ({ cls := "Badgewood$Leader", name := "setPermit", desc := "(II)V" } : Jvm.MethodName) ({ cls := "Badgewood$Leader", name := "setPermit", desc := "(II)V" } : Jvm.MethodName)) ∈ BW := bw_of 685 (by decide +kernel) rfl
theorem bw_656 : (Jvm.Cond.code ({ cls := "Badgewood$Leader", name := "setPermit", desc := "(II)V" } : Jvm.MethodName) prog_7_method_5_code (3 : Nat) (Option.none : Option Jvm.ClassFile.FieldType)) ∈ BW := bw_of 686 (by decide +kernel) rfl
theorem bw_657 : (Jvm.Cond.methodLink "BadgewoodLaw" (64 : Nat) ({ cls := "Badgewood", name := "teach", desc := "(II)I" } : Jvm.MethodName)) ∈ BW := bw_of 687 (by decide +kernel) rfl
theorem bw_658 : (Jvm.Cond.instanceMethod ({ cls := "Badgewood", name := "teach", desc := "(II)I" } : Jvm.MethodName)) ∈ BW := bw_of 688 (by decide +kernel) rfl
theorem bw_659 : (Jvm.Cond.selects "Badgewood" ({ cls := "Badgewood", name := "teach", desc := "(II)I" } : Jvm.MethodName) ({ cls := "Badgewood", name := "teach", desc := "(II)I" } : Jvm.MethodName)) ∈ BW := bw_of 689 (by decide +kernel) rfl
theorem bw_660 : (Jvm.Cond.code ({ cls := "Badgewood", name := "teach", desc := "(II)I" } : Jvm.MethodName) prog_1_method_13_code (5 : Nat) (Option.some Jvm.ClassFile.FieldType.int)) ∈ BW := bw_of 690 (by decide +kernel) rfl
theorem bw_661 : (Jvm.Cond.constant "Badgewood" (167 : Nat) (65535 : Int32)) ∈ BW := bw_of 691 (by decide +kernel) rfl
theorem bw_662 : (Jvm.Cond.methodLink "BadgewoodLaw" (67 : Nat) ({ cls := "Badgewood", name := "begin", desc := "(II)I" } : Jvm.MethodName)) ∈ BW := bw_of 692 (by decide +kernel) rfl
theorem bw_663 : (Jvm.Cond.instanceMethod ({ cls := "Badgewood", name := "begin", desc := "(II)I" } : Jvm.MethodName)) ∈ BW := bw_of 693 (by decide +kernel) rfl
theorem bw_664 : (Jvm.Cond.selects "Badgewood" ({ cls := "Badgewood", name := "begin", desc := "(II)I" } : Jvm.MethodName) ({ cls := "Badgewood", name := "begin", desc := "(II)I" } : Jvm.MethodName)) ∈ BW := bw_of 694 (by decide +kernel) rfl
theorem bw_665 : (Jvm.Cond.code ({ cls := "Badgewood", name := "begin", desc := "(II)I" } : Jvm.MethodName) prog_1_method_15_code (6 : Nat) (Option.some Jvm.ClassFile.FieldType.int)) ∈ BW := bw_of 695 (by decide +kernel) rfl
theorem bw_666 : (Jvm.Cond.methodLink "Badgewood" (171 : Nat) ({ cls := "Badgewood", name := "badgeAt", desc := "(I)LBadgewood$Badge;" } : Jvm.MethodName)) ∈ BW := bw_of 696 (by decide +kernel) rfl
theorem bw_668 : (Jvm.Cond.instanceMethod ({ cls := "Badgewood", name := "badgeAt", desc := "(I)LBadgewood$Badge;" } : Jvm.MethodName)) ∈ BW := bw_of 698 (by decide +kernel) rfl
theorem bw_669 : (Jvm.Cond.code ({ cls := "Badgewood", name := "badgeAt", desc := "(I)LBadgewood$Badge;" } : Jvm.MethodName) prog_1_method_37_code (2 : Nat) (Option.some (Jvm.ClassFile.FieldType.object "Badgewood$Badge"))) ∈ BW := bw_of 699 (by decide +kernel) rfl
theorem bw_672 : (Jvm.Cond.classLink "Badgewood" (196 : Nat) "Badgewood$Course") ∈ BW := bw_of 702 (by decide +kernel) rfl
theorem bw_673 : (Jvm.Cond.instantiable "Badgewood$Course" (3 : Nat)) ∈ BW := bw_of 703 (by decide +kernel) rfl
theorem bw_674 : (Jvm.Cond.classLink "Badgewood" (183 : Nat) "Badgewood$Edition") ∈ BW := bw_of 704 (by decide +kernel) rfl
theorem bw_675 : (Jvm.Cond.methodLink "Badgewood" (198 : Nat) ({ cls := "Badgewood$Course", name := "<init>", desc := "(LBadgewood$Edition;I)V" } : Jvm.MethodName)) ∈ BW := bw_of 705 (by decide +kernel) rfl
theorem bw_676 : (Jvm.Cond.instanceMethod ({ cls := "Badgewood$Course", name := "<init>", desc := "(LBadgewood$Edition;I)V" } : Jvm.MethodName)) ∈ BW := bw_of 706 (by decide +kernel) rfl
theorem bw_677 : (Jvm.Cond.code ({ cls := "Badgewood$Course", name := "<init>", desc := "(LBadgewood$Edition;I)V" } : Jvm.MethodName) prog_4_method_1_code (3 : Nat) (Option.none : Option Jvm.ClassFile.FieldType)) ∈ BW := bw_of 707 (by decide +kernel) rfl
theorem bw_678 : (Jvm.Cond.methodLink "Badgewood$Course" (3 : Nat) ({ cls := "java/lang/Object", name := "<init>", desc := "()V" } : Jvm.MethodName)) ∈ BW := bw_of 708 (by decide +kernel) rfl
theorem bw_679 : (Jvm.Cond.constant "Badgewood$Course" (9 : Nat) (1000000 : Int32)) ∈ BW := bw_of 709 (by decide +kernel) rfl
theorem bw_680 : (Jvm.Cond.fieldLink "Badgewood$Course" (16 : Nat) "Badgewood$Course" "edition" "LBadgewood$Edition;") ∈ BW := bw_of 710 (by decide +kernel) rfl
theorem bw_681 : (Jvm.Cond.fieldLink "Badgewood$Child" (64 : Nat) "Badgewood$Course" "edition" "LBadgewood$Edition;") ∈ BW := bw_of 711 (by decide +kernel) rfl
theorem bw_682 : (Jvm.Cond.fieldLink "Badgewood" (291 : Nat) "Badgewood$Course" "edition" "LBadgewood$Edition;") ∈ BW := bw_of 712 (by decide +kernel) rfl
theorem bw_683 : (Jvm.Cond.fieldLink "Badgewood$Course" (20 : Nat) "Badgewood$Course" "begunOn" "I") ∈ BW := bw_of 713 (by decide +kernel) rfl
theorem bw_684 : (Jvm.Cond.fieldLink "Badgewood$Child" (72 : Nat) "Badgewood$Course" "begunOn" "I") ∈ BW := bw_of 714 (by decide +kernel) rfl
theorem bw_685 : (Jvm.Cond.fieldLink "Badgewood$Course" (10 : Nat) "Badgewood$Course" "earnedOn" "I") ∈ BW := bw_of 715 (by decide +kernel) rfl
theorem bw_686 : (Jvm.Cond.fieldLink "Badgewood$Child" (57 : Nat) "Badgewood$Course" "earnedOn" "I") ∈ BW := bw_of 716 (by decide +kernel) rfl
theorem bw_694 : (Jvm.Cond.methodLink "Badgewood" (201 : Nat) ({ cls := "Badgewood$Child", name := "take", desc := "(ILBadgewood$Course;)V" } : Jvm.MethodName)) ∈ BW := bw_of 724 (by decide +kernel) rfl
theorem bw_695 : (Jvm.Cond.instanceMethod ({ cls := "Badgewood$Child", name := "take", desc := "(ILBadgewood$Course;)V" } : Jvm.MethodName)) ∈ BW := bw_of 725 (by decide +kernel) rfl
theorem bw_696 : (Jvm.Cond.selects "Badgewood$Child" ({ cls := "Badgewood$Child", name := "take", desc := "(ILBadgewood$Course;)V" } : Jvm.MethodName) ({ cls := "Badgewood$Child", name := "take", desc := "(ILBadgewood$Course;)V" } : Jvm.MethodName)) ∈ BW := bw_of 726 (by decide +kernel) rfl
theorem bw_697 : (Jvm.Cond.code ({ cls := "Badgewood$Child", name := "take", desc := "(ILBadgewood$Course;)V" } : Jvm.MethodName) prog_3_method_4_code (3 : Nat) (Option.none : Option Jvm.ClassFile.FieldType)) ∈ BW := bw_of 727 (by decide +kernel) rfl
theorem bw_698 : (Jvm.Cond.methodLink "Badgewood$Child" (43 : Nat) ({ cls := "Badgewood$Child", name := "reckonBadges", desc := "()V" } : Jvm.MethodName)) ∈ BW := bw_of 728 (by decide +kernel) rfl
theorem bw_700 : (Jvm.Cond.instanceMethod ({ cls := "Badgewood$Child", name := "reckonBadges", desc := "()V" } : Jvm.MethodName)) ∈ BW := bw_of 730 (by decide +kernel) rfl
theorem bw_701 : (Jvm.Cond.code ({ cls := "Badgewood$Child", name := "reckonBadges", desc := "()V" } : Jvm.MethodName) prog_3_method_8_code (4 : Nat) (Option.none : Option Jvm.ClassFile.FieldType)) ∈ BW := bw_of 731 (by decide +kernel) rfl
theorem bw_702 : (Jvm.Cond.methodLink "Badgewood$Child" (68 : Nat) ({ cls := "Badgewood$Child", name := "dayAfterBefore", desc := "(LBadgewood$Edition;)I" } : Jvm.MethodName)) ∈ BW := bw_of 732 (by decide +kernel) rfl
theorem bw_704 : (Jvm.Cond.instanceMethod ({ cls := "Badgewood$Child", name := "dayAfterBefore", desc := "(LBadgewood$Edition;)I" } : Jvm.MethodName)) ∈ BW := bw_of 734 (by decide +kernel) rfl
theorem bw_705 : (Jvm.Cond.code ({ cls := "Badgewood$Child", name := "dayAfterBefore", desc := "(LBadgewood$Edition;)I" } : Jvm.MethodName) prog_3_method_9_code (3 : Nat) (Option.some Jvm.ClassFile.FieldType.int)) ∈ BW := bw_of 735 (by decide +kernel) rfl
theorem bw_706 : (Jvm.Cond.methodLink "Badgewood$Child" (75 : Nat) ({ cls := "java/lang/Math", name := "max", desc := "(II)I" } : Jvm.MethodName)) ∈ BW := bw_of 736 (by decide +kernel) rfl
theorem bw_707 : (Jvm.Cond.methodLink "Badgewood$Child" (81 : Nat) ({ cls := "Badgewood$Child", name := "dayProven", desc := "(LBadgewood$Edition;)I" } : Jvm.MethodName)) ∈ BW := bw_of 737 (by decide +kernel) rfl
theorem bw_709 : (Jvm.Cond.instanceMethod ({ cls := "Badgewood$Child", name := "dayProven", desc := "(LBadgewood$Edition;)I" } : Jvm.MethodName)) ∈ BW := bw_of 739 (by decide +kernel) rfl
theorem bw_710 : (Jvm.Cond.code ({ cls := "Badgewood$Child", name := "dayProven", desc := "(LBadgewood$Edition;)I" } : Jvm.MethodName) prog_3_method_10_code (7 : Nat) (Option.some Jvm.ClassFile.FieldType.int)) ∈ BW := bw_of 740 (by decide +kernel) rfl
theorem bw_711 : (Jvm.Cond.methodLink "BadgewoodLaw" (70 : Nat) ({ cls := "Badgewood", name := "prove", desc := "(III)I" } : Jvm.MethodName)) ∈ BW := bw_of 741 (by decide +kernel) rfl
theorem bw_712 : (Jvm.Cond.instanceMethod ({ cls := "Badgewood", name := "prove", desc := "(III)I" } : Jvm.MethodName)) ∈ BW := bw_of 742 (by decide +kernel) rfl
theorem bw_713 : (Jvm.Cond.selects "Badgewood" ({ cls := "Badgewood", name := "prove", desc := "(III)I" } : Jvm.MethodName) ({ cls := "Badgewood", name := "prove", desc := "(III)I" } : Jvm.MethodName)) ∈ BW := bw_of 743 (by decide +kernel) rfl
theorem bw_714 : (Jvm.Cond.code ({ cls := "Badgewood", name := "prove", desc := "(III)I" } : Jvm.MethodName) prog_1_method_16_code (6 : Nat) (Option.some Jvm.ClassFile.FieldType.int)) ∈ BW := bw_of 744 (by decide +kernel) rfl
theorem bw_715 : (Jvm.Cond.methodLink "Badgewood" (205 : Nat) ({ cls := "Badgewood$Leader", name := "isVettedSomewhere", desc := "(I)Z" } : Jvm.MethodName)) ∈ BW := bw_of 745 (by decide +kernel) rfl
theorem bw_716 : (Jvm.Cond.instanceMethod ({ cls := "Badgewood$Leader", name := "isVettedSomewhere", desc := "(I)Z" } : Jvm.MethodName)) ∈ BW := bw_of 746 (by decide +kernel) rfl
theorem bw_717 : (Jvm.Cond.selects "Badgewood$Leader" ({ cls := "Badgewood$Leader", name := "isVettedSomewhere", desc := "(I)Z" } : Jvm.MethodName) ({ cls := "Badgewood$Leader", name := "isVettedSomewhere", desc := "(I)Z" } : Jvm.MethodName)) ∈ BW := bw_of 747 (by decide +kernel) rfl
theorem bw_718 : (Jvm.Cond.code ({ cls := "Badgewood$Leader", name := "isVettedSomewhere", desc := "(I)Z" } : Jvm.MethodName) prog_7_method_4_code (3 : Nat) (Option.some Jvm.ClassFile.FieldType.boolean)) ∈ BW := bw_of 748 (by decide +kernel) rfl
theorem bw_719 : (Jvm.Cond.methodLink "Badgewood$Leader" (21 : Nat) ({ cls := "Badgewood$Leader", name := "isVetted", desc := "(II)Z" } : Jvm.MethodName)) ∈ BW := bw_of 749 (by decide +kernel) rfl
theorem bw_723 : (Jvm.Cond.methodLink "Badgewood" (217 : Nat) ({ cls := "Badgewood$Child", name := "addProof", desc := "(II)V" } : Jvm.MethodName)) ∈ BW := bw_of 753 (by decide +kernel) rfl
theorem bw_724 : (Jvm.Cond.instanceMethod ({ cls := "Badgewood$Child", name := "addProof", desc := "(II)V" } : Jvm.MethodName)) ∈ BW := bw_of 754 (by decide +kernel) rfl
theorem bw_725 : (Jvm.Cond.selects "Badgewood$Child" ({ cls := "Badgewood$Child", name := "addProof", desc := "(II)V" } : Jvm.MethodName) ({ cls := "Badgewood$Child", name := "addProof", desc := "(II)V" } : Jvm.MethodName)) ∈ BW := bw_of 755 (by decide +kernel) rfl
theorem bw_726 : (Jvm.Cond.code ({ cls := "Badgewood$Child", name := "addProof", desc := "(II)V" } : Jvm.MethodName) prog_3_method_5_code (3 : Nat) (Option.none : Option Jvm.ClassFile.FieldType)) ∈ BW := bw_of 756 (by decide +kernel) rfl
theorem bw_727 : (Jvm.Cond.methodLink "BadgewoodLaw" (73 : Nat) ({ cls := "Badgewood", name := "staff", desc := "(IIZ)I" } : Jvm.MethodName)) ∈ BW := bw_of 757 (by decide +kernel) rfl
theorem bw_728 : (Jvm.Cond.instanceMethod ({ cls := "Badgewood", name := "staff", desc := "(IIZ)I" } : Jvm.MethodName)) ∈ BW := bw_of 758 (by decide +kernel) rfl
theorem bw_729 : (Jvm.Cond.selects "Badgewood" ({ cls := "Badgewood", name := "staff", desc := "(IIZ)I" } : Jvm.MethodName) ({ cls := "Badgewood", name := "staff", desc := "(IIZ)I" } : Jvm.MethodName)) ∈ BW := bw_of 759 (by decide +kernel) rfl
theorem bw_730 : (Jvm.Cond.code ({ cls := "Badgewood", name := "staff", desc := "(IIZ)I" } : Jvm.MethodName) prog_1_method_18_code (6 : Nat) (Option.some Jvm.ClassFile.FieldType.int)) ∈ BW := bw_of 760 (by decide +kernel) rfl
theorem bw_731 : (Jvm.Cond.methodLink "Badgewood" (230 : Nat) ({ cls := "Badgewood", name := "isElsewhere", desc := "(LBadgewood$Event;I)Z" } : Jvm.MethodName)) ∈ BW := bw_of 761 (by decide +kernel) rfl
theorem bw_733 : (Jvm.Cond.instanceMethod ({ cls := "Badgewood", name := "isElsewhere", desc := "(LBadgewood$Event;I)Z" } : Jvm.MethodName)) ∈ BW := bw_of 763 (by decide +kernel) rfl
theorem bw_734 : (Jvm.Cond.code ({ cls := "Badgewood", name := "isElsewhere", desc := "(LBadgewood$Event;I)Z" } : Jvm.MethodName) prog_1_method_54_code (5 : Nat) (Option.some Jvm.ClassFile.FieldType.boolean)) ∈ BW := bw_of 764 (by decide +kernel) rfl
theorem bw_735 : (Jvm.Cond.methodLink "Badgewood" (331 : Nat) ({ cls := "Badgewood$Event", name := "meets", desc := "(LBadgewood$Event;)Z" } : Jvm.MethodName)) ∈ BW := bw_of 765 (by decide +kernel) rfl
theorem bw_736 : (Jvm.Cond.instanceMethod ({ cls := "Badgewood$Event", name := "meets", desc := "(LBadgewood$Event;)Z" } : Jvm.MethodName)) ∈ BW := bw_of 766 (by decide +kernel) rfl
theorem bw_737 : (Jvm.Cond.selects "Badgewood$Event" ({ cls := "Badgewood$Event", name := "meets", desc := "(LBadgewood$Event;)Z" } : Jvm.MethodName) ({ cls := "Badgewood$Event", name := "meets", desc := "(LBadgewood$Event;)Z" } : Jvm.MethodName)) ∈ BW := bw_of 767 (by decide +kernel) rfl
theorem bw_738 : (Jvm.Cond.code ({ cls := "Badgewood$Event", name := "meets", desc := "(LBadgewood$Event;)Z" } : Jvm.MethodName) prog_6_method_3_code (2 : Nat) (Option.some Jvm.ClassFile.FieldType.boolean)) ∈ BW := bw_of 768 (by decide +kernel) rfl
theorem bw_740 : (Jvm.Cond.methodLink "BadgewoodLaw" (80 : Nat) ({ cls := "Badgewood", name := "couldStaff", desc := "(III)Z" } : Jvm.MethodName)) ∈ BW := bw_of 770 (by decide +kernel) rfl
theorem bw_741 : (Jvm.Cond.instanceMethod ({ cls := "Badgewood", name := "couldStaff", desc := "(III)Z" } : Jvm.MethodName)) ∈ BW := bw_of 771 (by decide +kernel) rfl
theorem bw_742 : (Jvm.Cond.selects "Badgewood" ({ cls := "Badgewood", name := "couldStaff", desc := "(III)Z" } : Jvm.MethodName) ({ cls := "Badgewood", name := "couldStaff", desc := "(III)Z" } : Jvm.MethodName)) ∈ BW := bw_of 772 (by decide +kernel) rfl
theorem bw_743 : (Jvm.Cond.code ({ cls := "Badgewood", name := "couldStaff", desc := "(III)Z" } : Jvm.MethodName) prog_1_method_20_code (4 : Nat) (Option.some Jvm.ClassFile.FieldType.boolean)) ∈ BW := bw_of 773 (by decide +kernel) rfl
theorem bw_744 : (Jvm.Cond.methodLink "Badgewood" (247 : Nat) ({ cls := "Badgewood", name := "eventsIn", desc := "(II)I" } : Jvm.MethodName)) ∈ BW := bw_of 774 (by decide +kernel) rfl
theorem bw_746 : (Jvm.Cond.instanceMethod ({ cls := "Badgewood", name := "eventsIn", desc := "(II)I" } : Jvm.MethodName)) ∈ BW := bw_of 776 (by decide +kernel) rfl
theorem bw_747 : (Jvm.Cond.code ({ cls := "Badgewood", name := "eventsIn", desc := "(II)I" } : Jvm.MethodName) prog_1_method_56_code (5 : Nat) (Option.some Jvm.ClassFile.FieldType.int)) ∈ BW := bw_of 777 (by decide +kernel) rfl
theorem bw_748 : (Jvm.Cond.methodLink "Badgewood" (355 : Nat) ({ cls := "Badgewood$Event", name := "goesOn", desc := "(II)Z" } : Jvm.MethodName)) ∈ BW := bw_of 778 (by decide +kernel) rfl
theorem bw_749 : (Jvm.Cond.instanceMethod ({ cls := "Badgewood$Event", name := "goesOn", desc := "(II)Z" } : Jvm.MethodName)) ∈ BW := bw_of 779 (by decide +kernel) rfl
theorem bw_750 : (Jvm.Cond.selects "Badgewood$Event" ({ cls := "Badgewood$Event", name := "goesOn", desc := "(II)Z" } : Jvm.MethodName) ({ cls := "Badgewood$Event", name := "goesOn", desc := "(II)Z" } : Jvm.MethodName)) ∈ BW := bw_of 780 (by decide +kernel) rfl
theorem bw_751 : (Jvm.Cond.code ({ cls := "Badgewood$Event", name := "goesOn", desc := "(II)Z" } : Jvm.MethodName) prog_6_method_2_code (3 : Nat) (Option.some Jvm.ClassFile.FieldType.boolean)) ∈ BW := bw_of 781 (by decide +kernel) rfl
theorem bw_753 : (Jvm.Cond.methodLink "Badgewood" (252 : Nat) ({ cls := "Badgewood", name := "needsIn", desc := "(II)Ljava/util/ArrayList;" } : Jvm.MethodName)) ∈ BW := bw_of 783 (by decide +kernel) rfl
theorem bw_755 : (Jvm.Cond.instanceMethod ({ cls := "Badgewood", name := "needsIn", desc := "(II)Ljava/util/ArrayList;" } : Jvm.MethodName)) ∈ BW := bw_of 785 (by decide +kernel) rfl
theorem bw_756 : (Jvm.Cond.code ({ cls := "Badgewood", name := "needsIn", desc := "(II)Ljava/util/ArrayList;" } : Jvm.MethodName) prog_1_method_57_code (5 : Nat) (Option.some (Jvm.ClassFile.FieldType.object "java/util/ArrayList"))) ∈ BW := bw_of 786 (by decide +kernel) rfl
theorem bw_757 : (Jvm.Cond.methodLink "Badgewood" (256 : Nat) ({ cls := "Badgewood", name := "canShare", desc := "(Ljava/util/ArrayList;II)Z" } : Jvm.MethodName)) ∈ BW := bw_of 787 (by decide +kernel) rfl
theorem bw_758 : (Jvm.Cond.static ({ cls := "Badgewood", name := "canShare", desc := "(Ljava/util/ArrayList;II)Z" } : Jvm.MethodName)) ∈ BW := bw_of 788 (by decide +kernel) rfl
theorem bw_759 : (Jvm.Cond.code ({ cls := "Badgewood", name := "canShare", desc := "(Ljava/util/ArrayList;II)Z" } : Jvm.MethodName) prog_1_method_58_code (8 : Nat) (Option.some Jvm.ClassFile.FieldType.boolean)) ∈ BW := bw_of 789 (by decide +kernel) rfl
theorem bw_760 : (Jvm.Cond.methodLink "BadgewoodLaw" (84 : Nat) ({ cls := "Badgewood", name := "boxes", desc := "(II)I" } : Jvm.MethodName)) ∈ BW := bw_of 790 (by decide +kernel) rfl
theorem bw_761 : (Jvm.Cond.instanceMethod ({ cls := "Badgewood", name := "boxes", desc := "(II)I" } : Jvm.MethodName)) ∈ BW := bw_of 791 (by decide +kernel) rfl
theorem bw_762 : (Jvm.Cond.selects "Badgewood" ({ cls := "Badgewood", name := "boxes", desc := "(II)I" } : Jvm.MethodName) ({ cls := "Badgewood", name := "boxes", desc := "(II)I" } : Jvm.MethodName)) ∈ BW := bw_of 792 (by decide +kernel) rfl
theorem bw_763 : (Jvm.Cond.code ({ cls := "Badgewood", name := "boxes", desc := "(II)I" } : Jvm.MethodName) prog_1_method_21_code (4 : Nat) (Option.some Jvm.ClassFile.FieldType.int)) ∈ BW := bw_of 793 (by decide +kernel) rfl
theorem bw_766 : (Jvm.Cond.methodLink "BadgewoodLaw" (87 : Nat) ({ cls := "Badgewood", name := "pay", desc := "(II)I" } : Jvm.MethodName)) ∈ BW := bw_of 796 (by decide +kernel) rfl
theorem bw_767 : (Jvm.Cond.instanceMethod ({ cls := "Badgewood", name := "pay", desc := "(II)I" } : Jvm.MethodName)) ∈ BW := bw_of 797 (by decide +kernel) rfl
theorem bw_768 : (Jvm.Cond.selects "Badgewood" ({ cls := "Badgewood", name := "pay", desc := "(II)I" } : Jvm.MethodName) ({ cls := "Badgewood", name := "pay", desc := "(II)I" } : Jvm.MethodName)) ∈ BW := bw_of 798 (by decide +kernel) rfl
theorem bw_769 : (Jvm.Cond.code ({ cls := "Badgewood", name := "pay", desc := "(II)I" } : Jvm.MethodName) prog_1_method_22_code (4 : Nat) (Option.some Jvm.ClassFile.FieldType.int)) ∈ BW := bw_of 799 (by decide +kernel) rfl
theorem bw_771 : (Jvm.Cond.methodLink "BadgewoodLaw" (107 : Nat) ({ cls := "Badgewood", name := "lacks", desc := "(II)I" } : Jvm.MethodName)) ∈ BW := bw_of 801 (by decide +kernel) rfl
theorem bw_772 : (Jvm.Cond.instanceMethod ({ cls := "Badgewood", name := "lacks", desc := "(II)I" } : Jvm.MethodName)) ∈ BW := bw_of 802 (by decide +kernel) rfl
theorem bw_773 : (Jvm.Cond.selects "Badgewood" ({ cls := "Badgewood", name := "lacks", desc := "(II)I" } : Jvm.MethodName) ({ cls := "Badgewood", name := "lacks", desc := "(II)I" } : Jvm.MethodName)) ∈ BW := bw_of 803 (by decide +kernel) rfl
theorem bw_774 : (Jvm.Cond.code ({ cls := "Badgewood", name := "lacks", desc := "(II)I" } : Jvm.MethodName) prog_1_method_29_code (5 : Nat) (Option.some Jvm.ClassFile.FieldType.int)) ∈ BW := bw_of 804 (by decide +kernel) rfl
theorem bw_776 : (Jvm.Cond.constant "BadgewoodLaw" (17 : Nat) (-2000000001 : Int32)) ∈ BW := bw_of 806 (by decide +kernel) rfl
theorem bw_777 : (Jvm.Cond.constant "BadgewoodLaw" (20 : Nat) (-2000000002 : Int32)) ∈ BW := bw_of 807 (by decide +kernel) rfl
theorem bw_778 : (Jvm.Cond.constant "BadgewoodLaw" (23 : Nat) (-2000000003 : Int32)) ∈ BW := bw_of 808 (by decide +kernel) rfl
theorem bw_779 : (Jvm.Cond.constant "BadgewoodLaw" (134 : Nat) (-2000000099 : Int32)) ∈ BW := bw_of 809 (by decide +kernel) rfl
theorem bw_780 : (Jvm.Cond.methodLink "BadgewoodLaw" (162 : Nat) ({ cls := "BadgewoodLaw", name := "children", desc := "(LBadgewood;LBadgewood;[III)Z" } : Jvm.MethodName)) ∈ BW := bw_of 810 (by decide +kernel) rfl
theorem bw_781 : (Jvm.Cond.static ({ cls := "BadgewoodLaw", name := "children", desc := "(LBadgewood;LBadgewood;[III)Z" } : Jvm.MethodName)) ∈ BW := bw_of 811 (by decide +kernel) rfl
set_option maxRecDepth 100000 in
set_option maxHeartbeats 4000000 in
theorem bw_782 : (Jvm.Cond.code ({ cls := "BadgewoodLaw", name := "children", desc := "(LBadgewood;LBadgewood;[III)Z" } : Jvm.MethodName) method_10_code (13 : Nat) (Option.some Jvm.ClassFile.FieldType.boolean)) ∈ BW := List.mem_filter.mpr ⟨tb_4 (List.mem_of_getElem? (i := 62) rfl), rfl⟩
theorem bw_783 : (Jvm.Cond.methodLink "BadgewoodLaw" (166 : Nat) ({ cls := "BadgewoodLaw", name := "badges", desc := "(LBadgewood;LBadgewood;[III)Z" } : Jvm.MethodName)) ∈ BW := bw_of 813 (by decide +kernel) rfl
theorem bw_784 : (Jvm.Cond.static ({ cls := "BadgewoodLaw", name := "badges", desc := "(LBadgewood;LBadgewood;[III)Z" } : Jvm.MethodName)) ∈ BW := bw_of 814 (by decide +kernel) rfl
set_option maxRecDepth 100000 in
set_option maxHeartbeats 4000000 in
theorem bw_785 : (Jvm.Cond.code ({ cls := "BadgewoodLaw", name := "badges", desc := "(LBadgewood;LBadgewood;[III)Z" } : Jvm.MethodName) method_11_code (14 : Nat) (Option.some Jvm.ClassFile.FieldType.boolean)) ∈ BW := List.mem_filter.mpr ⟨tb_4 (List.mem_of_getElem? (i := 65) rfl), rfl⟩
theorem bw_786 : (Jvm.Cond.methodLink "BadgewoodLaw" (142 : Nat) ({ cls := "BadgewoodLaw", name := "edition", desc := "(LBadgewood;IIIIIII)I" } : Jvm.MethodName)) ∈ BW := bw_of 816 (by decide +kernel) rfl
theorem bw_787 : (Jvm.Cond.static ({ cls := "BadgewoodLaw", name := "edition", desc := "(LBadgewood;IIIIIII)I" } : Jvm.MethodName)) ∈ BW := bw_of 817 (by decide +kernel) rfl
theorem bw_788 : (Jvm.Cond.codeWith ({ cls := "BadgewoodLaw", name := "edition", desc := "(LBadgewood;IIIIIII)I" } : Jvm.MethodName) method_6_code (9 : Nat) (Option.some Jvm.ClassFile.FieldType.int) [((0 : Nat), (15 : Nat), (16 : Nat), (15 : Nat)), ((0 : Nat), (15 : Nat), (21 : Nat), (18 : Nat)), ((0 : Nat), (15 : Nat), (26 : Nat), (21 : Nat))]) ∈ BW := bw_of 818 (by decide +kernel) rfl
theorem bw_789 : (Jvm.Cond.methodLink "BadgewoodLaw" (110 : Nat) ({ cls := "Badgewood", name := "edition", desc := "(IIIIIII)I" } : Jvm.MethodName)) ∈ BW := bw_of 819 (by decide +kernel) rfl
theorem bw_790 : (Jvm.Cond.instanceMethod ({ cls := "Badgewood", name := "edition", desc := "(IIIIIII)I" } : Jvm.MethodName)) ∈ BW := bw_of 820 (by decide +kernel) rfl
theorem bw_791 : (Jvm.Cond.selects "Badgewood" ({ cls := "Badgewood", name := "edition", desc := "(IIIIIII)I" } : Jvm.MethodName) ({ cls := "Badgewood", name := "edition", desc := "(IIIIIII)I" } : Jvm.MethodName)) ∈ BW := bw_of 821 (by decide +kernel) rfl
theorem bw_792 : (Jvm.Cond.code ({ cls := "Badgewood", name := "edition", desc := "(IIIIIII)I" } : Jvm.MethodName) prog_1_method_14_code (9 : Nat) (Option.some Jvm.ClassFile.FieldType.int)) ∈ BW := bw_of 822 (by decide +kernel) rfl
theorem bw_794 : (Jvm.Cond.instantiable "Badgewood$Edition" (6 : Nat)) ∈ BW := bw_of 824 (by decide +kernel) rfl
theorem bw_795 : (Jvm.Cond.methodLink "Badgewood" (185 : Nat) ({ cls := "Badgewood$Edition", name := "<init>", desc := "(IIIIII)V" } : Jvm.MethodName)) ∈ BW := bw_of 825 (by decide +kernel) rfl
theorem bw_796 : (Jvm.Cond.instanceMethod ({ cls := "Badgewood$Edition", name := "<init>", desc := "(IIIIII)V" } : Jvm.MethodName)) ∈ BW := bw_of 826 (by decide +kernel) rfl
theorem bw_797 : (Jvm.Cond.code ({ cls := "Badgewood$Edition", name := "<init>", desc := "(IIIIII)V" } : Jvm.MethodName) prog_5_method_1_code (7 : Nat) (Option.none : Option Jvm.ClassFile.FieldType)) ∈ BW := bw_of 827 (by decide +kernel) rfl
theorem bw_798 : (Jvm.Cond.methodLink "Badgewood$Edition" (1 : Nat) ({ cls := "java/lang/Object", name := "<init>", desc := "()V" } : Jvm.MethodName)) ∈ BW := bw_of 828 (by decide +kernel) rfl
theorem bw_799 : (Jvm.Cond.fieldLink "Badgewood$Edition" (7 : Nat) "Badgewood$Edition" "must" "I") ∈ BW := bw_of 829 (by decide +kernel) rfl
theorem bw_800 : (Jvm.Cond.fieldLink "Badgewood$Child" (92 : Nat) "Badgewood$Edition" "must" "I") ∈ BW := bw_of 830 (by decide +kernel) rfl
theorem bw_801 : (Jvm.Cond.fieldLink "Badgewood" (295 : Nat) "Badgewood$Edition" "must" "I") ∈ BW := bw_of 831 (by decide +kernel) rfl
theorem bw_802 : (Jvm.Cond.fieldLink "Badgewood$Edition" (13 : Nat) "Badgewood$Edition" "choice" "I") ∈ BW := bw_of 832 (by decide +kernel) rfl
theorem bw_803 : (Jvm.Cond.fieldLink "Badgewood$Child" (98 : Nat) "Badgewood$Edition" "choice" "I") ∈ BW := bw_of 833 (by decide +kernel) rfl
theorem bw_804 : (Jvm.Cond.fieldLink "Badgewood$Edition" (16 : Nat) "Badgewood$Edition" "many" "I") ∈ BW := bw_of 834 (by decide +kernel) rfl
theorem bw_805 : (Jvm.Cond.fieldLink "Badgewood$Child" (95 : Nat) "Badgewood$Edition" "many" "I") ∈ BW := bw_of 835 (by decide +kernel) rfl
theorem bw_806 : (Jvm.Cond.fieldLink "Badgewood$Edition" (19 : Nat) "Badgewood$Edition" "before" "I") ∈ BW := bw_of 836 (by decide +kernel) rfl
theorem bw_807 : (Jvm.Cond.fieldLink "Badgewood$Child" (84 : Nat) "Badgewood$Edition" "before" "I") ∈ BW := bw_of 837 (by decide +kernel) rfl
theorem bw_808 : (Jvm.Cond.fieldLink "Badgewood$Edition" (22 : Nat) "Badgewood$Edition" "gap" "I") ∈ BW := bw_of 838 (by decide +kernel) rfl
theorem bw_809 : (Jvm.Cond.fieldLink "Badgewood$Child" (89 : Nat) "Badgewood$Edition" "gap" "I") ∈ BW := bw_of 839 (by decide +kernel) rfl
theorem bw_810 : (Jvm.Cond.fieldLink "Badgewood$Edition" (25 : Nat) "Badgewood$Edition" "lasts" "I") ∈ BW := bw_of 840 (by decide +kernel) rfl
theorem bw_811 : (Jvm.Cond.fieldLink "Badgewood$Course" (23 : Nat) "Badgewood$Edition" "lasts" "I") ∈ BW := bw_of 841 (by decide +kernel) rfl
theorem bw_825 : (Jvm.Cond.methodLink "BadgewoodLaw" (169 : Nat) ({ cls := "BadgewoodLaw", name := "leaders", desc := "(LBadgewood;LBadgewood;[III)Z" } : Jvm.MethodName)) ∈ BW := bw_of 855 (by decide +kernel) rfl
theorem bw_826 : (Jvm.Cond.static ({ cls := "BadgewoodLaw", name := "leaders", desc := "(LBadgewood;LBadgewood;[III)Z" } : Jvm.MethodName)) ∈ BW := bw_of 856 (by decide +kernel) rfl
set_option maxRecDepth 100000 in
set_option maxHeartbeats 4000000 in
theorem bw_827 : (Jvm.Cond.code ({ cls := "BadgewoodLaw", name := "leaders", desc := "(LBadgewood;LBadgewood;[III)Z" } : Jvm.MethodName) method_12_code (10 : Nat) (Option.some Jvm.ClassFile.FieldType.boolean)) ∈ BW := List.mem_filter.mpr ⟨tb_4 (List.mem_of_getElem? (i := 107) rfl), rfl⟩
theorem bw_828 : (Jvm.Cond.constant "BadgewoodLaw" (145 : Nat) (65536 : Int32)) ∈ BW := bw_of 858 (by decide +kernel) rfl
theorem bw_829 : (Jvm.Cond.methodLink "BadgewoodLaw" (172 : Nat) ({ cls := "BadgewoodLaw", name := "events", desc := "(LBadgewood;LBadgewood;[III)Z" } : Jvm.MethodName)) ∈ BW := bw_of 859 (by decide +kernel) rfl
theorem bw_830 : (Jvm.Cond.static ({ cls := "BadgewoodLaw", name := "events", desc := "(LBadgewood;LBadgewood;[III)Z" } : Jvm.MethodName)) ∈ BW := bw_of 860 (by decide +kernel) rfl
set_option maxRecDepth 100000 in
set_option maxHeartbeats 4000000 in
theorem bw_831 : (Jvm.Cond.code ({ cls := "BadgewoodLaw", name := "events", desc := "(LBadgewood;LBadgewood;[III)Z" } : Jvm.MethodName) method_13_code (12 : Nat) (Option.some Jvm.ClassFile.FieldType.boolean)) ∈ BW := List.mem_filter.mpr ⟨tb_4 (List.mem_of_getElem? (i := 111) rfl), rfl⟩
theorem bw_832 : (Jvm.Cond.methodLink "BadgewoodLaw" (146 : Nat) ({ cls := "BadgewoodLaw", name := "event", desc := "(LBadgewood;IIIIII)I" } : Jvm.MethodName)) ∈ BW := bw_of 862 (by decide +kernel) rfl
theorem bw_833 : (Jvm.Cond.static ({ cls := "BadgewoodLaw", name := "event", desc := "(LBadgewood;IIIIII)I" } : Jvm.MethodName)) ∈ BW := bw_of 863 (by decide +kernel) rfl
theorem bw_834 : (Jvm.Cond.codeWith ({ cls := "BadgewoodLaw", name := "event", desc := "(LBadgewood;IIIIII)I" } : Jvm.MethodName) method_7_code (8 : Nat) (Option.some Jvm.ClassFile.FieldType.int) [((0 : Nat), (13 : Nat), (14 : Nat), (15 : Nat)), ((0 : Nat), (13 : Nat), (19 : Nat), (18 : Nat)), ((0 : Nat), (13 : Nat), (24 : Nat), (21 : Nat))]) ∈ BW := bw_of 864 (by decide +kernel) rfl
theorem bw_835 : (Jvm.Cond.methodLink "BadgewoodLaw" (114 : Nat) ({ cls := "Badgewood", name := "event", desc := "(IIIIII)I" } : Jvm.MethodName)) ∈ BW := bw_of 865 (by decide +kernel) rfl
theorem bw_836 : (Jvm.Cond.instanceMethod ({ cls := "Badgewood", name := "event", desc := "(IIIIII)I" } : Jvm.MethodName)) ∈ BW := bw_of 866 (by decide +kernel) rfl
theorem bw_837 : (Jvm.Cond.selects "Badgewood" ({ cls := "Badgewood", name := "event", desc := "(IIIIII)I" } : Jvm.MethodName) ({ cls := "Badgewood", name := "event", desc := "(IIIIII)I" } : Jvm.MethodName)) ∈ BW := bw_of 867 (by decide +kernel) rfl
theorem bw_838 : (Jvm.Cond.code ({ cls := "Badgewood", name := "event", desc := "(IIIIII)I" } : Jvm.MethodName) prog_1_method_17_code (8 : Nat) (Option.some Jvm.ClassFile.FieldType.int)) ∈ BW := bw_of 868 (by decide +kernel) rfl
theorem bw_839 : (Jvm.Cond.instantiable "Badgewood$Event" (7 : Nat)) ∈ BW := bw_of 869 (by decide +kernel) rfl
theorem bw_840 : (Jvm.Cond.methodLink "Badgewood" (225 : Nat) ({ cls := "Badgewood$Event", name := "<init>", desc := "(IIIIII)V" } : Jvm.MethodName)) ∈ BW := bw_of 870 (by decide +kernel) rfl
theorem bw_841 : (Jvm.Cond.instanceMethod ({ cls := "Badgewood$Event", name := "<init>", desc := "(IIIIII)V" } : Jvm.MethodName)) ∈ BW := bw_of 871 (by decide +kernel) rfl
theorem bw_842 : (Jvm.Cond.code ({ cls := "Badgewood$Event", name := "<init>", desc := "(IIIIII)V" } : Jvm.MethodName) prog_6_method_1_code (7 : Nat) (Option.none : Option Jvm.ClassFile.FieldType)) ∈ BW := bw_of 872 (by decide +kernel) rfl
theorem bw_843 : (Jvm.Cond.methodLink "Badgewood$Event" (1 : Nat) ({ cls := "java/lang/Object", name := "<init>", desc := "()V" } : Jvm.MethodName)) ∈ BW := bw_of 873 (by decide +kernel) rfl
theorem bw_844 : (Jvm.Cond.fieldLink "Badgewood$Event" (7 : Nat) "Badgewood$Event" "troop" "I") ∈ BW := bw_of 874 (by decide +kernel) rfl
theorem bw_845 : (Jvm.Cond.fieldLink "Badgewood" (350 : Nat) "Badgewood$Event" "troop" "I") ∈ BW := bw_of 875 (by decide +kernel) rfl
theorem bw_846 : (Jvm.Cond.fieldLink "Badgewood$Event" (13 : Nat) "Badgewood$Event" "land" "I") ∈ BW := bw_of 876 (by decide +kernel) rfl
theorem bw_847 : (Jvm.Cond.fieldLink "Badgewood" (335 : Nat) "Badgewood$Event" "land" "I") ∈ BW := bw_of 877 (by decide +kernel) rfl
theorem bw_848 : (Jvm.Cond.fieldLink "Badgewood$Event" (16 : Nat) "Badgewood$Event" "kind" "I") ∈ BW := bw_of 878 (by decide +kernel) rfl
theorem bw_849 : (Jvm.Cond.fieldLink "Badgewood" (344 : Nat) "Badgewood$Event" "kind" "I") ∈ BW := bw_of 879 (by decide +kernel) rfl
theorem bw_850 : (Jvm.Cond.fieldLink "Badgewood$Event" (19 : Nat) "Badgewood$Event" "day" "I") ∈ BW := bw_of 880 (by decide +kernel) rfl
theorem bw_851 : (Jvm.Cond.fieldLink "Badgewood" (338 : Nat) "Badgewood$Event" "day" "I") ∈ BW := bw_of 881 (by decide +kernel) rfl
theorem bw_852 : (Jvm.Cond.fieldLink "Badgewood$Event" (22 : Nat) "Badgewood$Event" "hour" "I") ∈ BW := bw_of 882 (by decide +kernel) rfl
theorem bw_853 : (Jvm.Cond.fieldLink "Badgewood$Event" (25 : Nat) "Badgewood$Event" "end" "I") ∈ BW := bw_of 883 (by decide +kernel) rfl
theorem bw_854 : (Jvm.Cond.fieldLink "Badgewood" (236 : Nat) "Badgewood$Event" "leaders" "I") ∈ BW := bw_of 884 (by decide +kernel) rfl
theorem bw_870 : (Jvm.Cond.methodLink "BadgewoodLaw" (175 : Nat) ({ cls := "BadgewoodLaw", name := "days", desc := "(LBadgewood;LBadgewood;[III)Z" } : Jvm.MethodName)) ∈ BW := bw_of 900 (by decide +kernel) rfl
theorem bw_871 : (Jvm.Cond.static ({ cls := "BadgewoodLaw", name := "days", desc := "(LBadgewood;LBadgewood;[III)Z" } : Jvm.MethodName)) ∈ BW := bw_of 901 (by decide +kernel) rfl
theorem bw_872 : (Jvm.Cond.code ({ cls := "BadgewoodLaw", name := "days", desc := "(LBadgewood;LBadgewood;[III)Z" } : Jvm.MethodName) method_14_code (11 : Nat) (Option.some Jvm.ClassFile.FieldType.boolean)) ∈ BW := bw_of 902 (by decide +kernel) rfl
theorem bw_873 : (Jvm.Cond.methodLink "BadgewoodLaw" (178 : Nat) ({ cls := "BadgewoodLaw", name := "sound", desc := "(LBadgewood;[I)Z" } : Jvm.MethodName)) ∈ BW := bw_of 903 (by decide +kernel) rfl
theorem bw_874 : (Jvm.Cond.static ({ cls := "BadgewoodLaw", name := "sound", desc := "(LBadgewood;[I)Z" } : Jvm.MethodName)) ∈ BW := bw_of 904 (by decide +kernel) rfl
set_option maxRecDepth 100000 in
set_option maxHeartbeats 4000000 in
theorem bw_875 : (Jvm.Cond.code ({ cls := "BadgewoodLaw", name := "sound", desc := "(LBadgewood;[I)Z" } : Jvm.MethodName) method_15_code (10 : Nat) (Option.some Jvm.ClassFile.FieldType.boolean)) ∈ BW := List.mem_filter.mpr ⟨tb_4 (List.mem_of_getElem? (i := 155) rfl), rfl⟩
theorem bw_876 : (Jvm.Cond.methodLink "BadgewoodLaw" (158 : Nat) ({ cls := "BadgewoodLaw", name := "refused", desc := "(LBadgewood;[I)Z" } : Jvm.MethodName)) ∈ BW := bw_of 906 (by decide +kernel) rfl
theorem bw_877 : (Jvm.Cond.static ({ cls := "BadgewoodLaw", name := "refused", desc := "(LBadgewood;[I)Z" } : Jvm.MethodName)) ∈ BW := bw_of 907 (by decide +kernel) rfl
set_option maxRecDepth 100000 in
set_option maxHeartbeats 4000000 in
theorem bw_878 : (Jvm.Cond.code ({ cls := "BadgewoodLaw", name := "refused", desc := "(LBadgewood;[I)Z" } : Jvm.MethodName) method_16_code (5 : Nat) (Option.some Jvm.ClassFile.FieldType.boolean)) ∈ BW := List.mem_filter.mpr ⟨tb_4 (List.mem_of_getElem? (i := 158) rfl), rfl⟩
theorem bw_879 : (Jvm.Cond.sameMethod "java/lang/Throwable" "java/lang/Throwable" "fillInStackTrace" "(I)Ljava/lang/Throwable;") ∈ BW := bw_of 909 (by decide +kernel) rfl
theorem nw_880 : (Jvm.Cond.castable "Badgewood$Badge" "java/lang/Object") ∈ NW := nw_of 910 (by decide +kernel) rfl
theorem nw_881 : (Jvm.Cond.castable "Badgewood$Course" "java/lang/Object") ∈ NW := nw_of 911 (by decide +kernel) rfl
theorem nw_882 : (Jvm.Cond.castable "Badgewood" "java/lang/Object") ∈ NW := nw_of 912 (by decide +kernel) rfl
theorem nw_883 : (Jvm.Cond.castable "java/util/ArrayList" "java/lang/Object") ∈ NW := nw_of 913 (by decide +kernel) rfl
theorem nw_884 : (Jvm.Cond.castable "java/lang/IllegalArgumentException" "java/lang/Object") ∈ NW := nw_of 914 (by decide +kernel) rfl
theorem nw_885 : (Jvm.Cond.castable "java/lang/IllegalStateException" "java/lang/Object") ∈ NW := nw_of 915 (by decide +kernel) rfl
theorem nw_886 : (Jvm.Cond.castable "Badgewood$Troop" "java/lang/Object") ∈ NW := nw_of 916 (by decide +kernel) rfl
theorem nw_887 : (Jvm.Cond.castable "Badgewood$Child" "java/lang/Object") ∈ NW := nw_of 917 (by decide +kernel) rfl
theorem nw_888 : (Jvm.Cond.castable "java/lang/IndexOutOfBoundsException" "java/lang/Object") ∈ NW := nw_of 918 (by decide +kernel) rfl
theorem nw_889 : (Jvm.Cond.castable "Badgewood$Leader" "java/lang/Object") ∈ NW := nw_of 919 (by decide +kernel) rfl
theorem nw_890 : (Jvm.Cond.castable "Badgewood$Need" "java/lang/Object") ∈ NW := nw_of 920 (by decide +kernel) rfl
theorem nw_891 : (Jvm.Cond.castable "Badgewood$Edition" "java/lang/Object") ∈ NW := nw_of 921 (by decide +kernel) rfl
theorem nw_892 : (Jvm.Cond.castable "Badgewood$Event" "java/lang/Object") ∈ NW := nw_of 922 (by decide +kernel) rfl
theorem nw_893 : (Jvm.Cond.castable "java/lang/Throwable" "java/lang/Object") ∈ NW := nw_of 923 (by decide +kernel) rfl
theorem nw_894 : (Jvm.Cond.castable "java/lang/String" "java/lang/Object") ∈ NW := nw_of 924 (by decide +kernel) rfl
theorem bw_895 : (Jvm.Cond.sameMethod "[Ljava/lang/Object;" "java/lang/Object" "getClass" "()Ljava/lang/Class;") ∈ BW := bw_of 925 (by decide +kernel) rfl
theorem bw_896 : (Jvm.Cond.selects "[Ljava/lang/Object;" ({ cls := "java/lang/Object", name := "getClass", desc := "()Ljava/lang/Class;" } : Jvm.MethodName) ({ cls := "java/lang/Object", name := "getClass", desc := "()Ljava/lang/Class;" } : Jvm.MethodName)) ∈ BW := bw_of 926 (by decide +kernel) rfl
theorem nw_897 : (Jvm.Cond.declares ({ cls := "java/lang/Object", name := "getClass", desc := "()Ljava/lang/Class;" } : Jvm.MethodName)) ∈ NW := nw_of 927 (by decide +kernel) rfl
theorem nw_898 : (Jvm.Cond.castable "[LBadgewood$Badge;" "java/lang/Object") ∈ NW := nw_of 928 (by decide +kernel) rfl
theorem nw_899 : (Jvm.Cond.castable "[B" "java/lang/Object") ∈ NW := nw_of 929 (by decide +kernel) rfl
theorem nw_900 : (Jvm.Cond.castable "[Ljava/lang/Object;" "java/lang/Object") ∈ NW := nw_of 930 (by decide +kernel) rfl
theorem nw_901 : (Jvm.Cond.castable "[LBadgewood$Course;" "java/lang/Object") ∈ NW := nw_of 931 (by decide +kernel) rfl
theorem nw_902 : (Jvm.Cond.castable "[I" "java/lang/Object") ∈ NW := nw_of 932 (by decide +kernel) rfl
theorem bw_p0 : (Jvm.Cond.selects "Badgewood" ({ cls := "Badgewood", name := "childAt", desc := "(I)LBadgewood$Child;" } : Jvm.MethodName) ({ cls := "Badgewood", name := "childAt", desc := "(I)LBadgewood$Child;" } : Jvm.MethodName)) ∈ BW := bw_of 0 (by decide +kernel) rfl
theorem bw_p1 : (Jvm.Cond.selects "java/lang/Throwable" ({ cls := "java/lang/Throwable", name := "fillInStackTrace", desc := "(I)Ljava/lang/Throwable;" } : Jvm.MethodName) ({ cls := "java/lang/Throwable", name := "fillInStackTrace", desc := "(I)Ljava/lang/Throwable;" } : Jvm.MethodName)) ∈ BW := bw_of 1 (by decide +kernel) rfl
theorem bw_p2 : (Jvm.Cond.selects "Badgewood" ({ cls := "Badgewood", name := "troopAt", desc := "(I)LBadgewood$Troop;" } : Jvm.MethodName) ({ cls := "Badgewood", name := "troopAt", desc := "(I)LBadgewood$Troop;" } : Jvm.MethodName)) ∈ BW := bw_of 2 (by decide +kernel) rfl
theorem bw_p3 : (Jvm.Cond.selects "Badgewood" ({ cls := "Badgewood", name := "waitingFor", desc := "(I)I" } : Jvm.MethodName) ({ cls := "Badgewood", name := "waitingFor", desc := "(I)I" } : Jvm.MethodName)) ∈ BW := bw_of 3 (by decide +kernel) rfl
theorem bw_p4 : (Jvm.Cond.selects "Badgewood" ({ cls := "Badgewood", name := "childrenIn", desc := "(I)I" } : Jvm.MethodName) ({ cls := "Badgewood", name := "childrenIn", desc := "(I)I" } : Jvm.MethodName)) ∈ BW := bw_of 4 (by decide +kernel) rfl
theorem bw_p5 : (Jvm.Cond.selects "Badgewood" ({ cls := "Badgewood", name := "filledPatrols", desc := "(I)I" } : Jvm.MethodName) ({ cls := "Badgewood", name := "filledPatrols", desc := "(I)I" } : Jvm.MethodName)) ∈ BW := bw_of 5 (by decide +kernel) rfl
theorem bw_p6 : (Jvm.Cond.selects "Badgewood" ({ cls := "Badgewood", name := "childrenInPatrol", desc := "(II)I" } : Jvm.MethodName) ({ cls := "Badgewood", name := "childrenInPatrol", desc := "(II)I" } : Jvm.MethodName)) ∈ BW := bw_of 6 (by decide +kernel) rfl
theorem bw_p7 : (Jvm.Cond.selects "Badgewood" ({ cls := "Badgewood", name := "filledPatrolAt", desc := "(II)I" } : Jvm.MethodName) ({ cls := "Badgewood", name := "filledPatrolAt", desc := "(II)I" } : Jvm.MethodName)) ∈ BW := bw_of 7 (by decide +kernel) rfl
theorem bw_p8 : (Jvm.Cond.selects "Badgewood" ({ cls := "Badgewood", name := "eventAt", desc := "(I)LBadgewood$Event;" } : Jvm.MethodName) ({ cls := "Badgewood", name := "eventAt", desc := "(I)LBadgewood$Event;" } : Jvm.MethodName)) ∈ BW := bw_of 8 (by decide +kernel) rfl
theorem bw_p9 : (Jvm.Cond.selects "Badgewood" ({ cls := "Badgewood", name := "needOf", desc := "(LBadgewood$Event;)LBadgewood$Need;" } : Jvm.MethodName) ({ cls := "Badgewood", name := "needOf", desc := "(LBadgewood$Event;)LBadgewood$Need;" } : Jvm.MethodName)) ∈ BW := bw_of 9 (by decide +kernel) rfl
theorem bw_p10 : (Jvm.Cond.selects "java/util/ArrayList" ({ cls := "java/util/ArrayList", name := "add", desc := "(Ljava/lang/Object;[Ljava/lang/Object;I)V" } : Jvm.MethodName) ({ cls := "java/util/ArrayList", name := "add", desc := "(Ljava/lang/Object;[Ljava/lang/Object;I)V" } : Jvm.MethodName)) ∈ BW := bw_of 10 (by decide +kernel) rfl
theorem bw_p11 : (Jvm.Cond.selects "java/util/ArrayList" ({ cls := "java/util/ArrayList", name := "grow", desc := "()[Ljava/lang/Object;" } : Jvm.MethodName) ({ cls := "java/util/ArrayList", name := "grow", desc := "()[Ljava/lang/Object;" } : Jvm.MethodName)) ∈ BW := bw_of 11 (by decide +kernel) rfl
theorem bw_p12 : (Jvm.Cond.selects "java/util/ArrayList" ({ cls := "java/util/ArrayList", name := "grow", desc := "(I)[Ljava/lang/Object;" } : Jvm.MethodName) ({ cls := "java/util/ArrayList", name := "grow", desc := "(I)[Ljava/lang/Object;" } : Jvm.MethodName)) ∈ BW := bw_of 12 (by decide +kernel) rfl
theorem bw_p13 : (Jvm.Cond.selects "Badgewood" ({ cls := "Badgewood", name := "comeInOrWait", desc := "(LBadgewood$Child;LBadgewood$Troop;)I" } : Jvm.MethodName) ({ cls := "Badgewood", name := "comeInOrWait", desc := "(LBadgewood$Child;LBadgewood$Troop;)I" } : Jvm.MethodName)) ∈ BW := bw_of 13 (by decide +kernel) rfl
theorem bw_p14 : (Jvm.Cond.selects "Badgewood" ({ cls := "Badgewood", name := "comeIn", desc := "(LBadgewood$Child;I)V" } : Jvm.MethodName) ({ cls := "Badgewood", name := "comeIn", desc := "(LBadgewood$Child;I)V" } : Jvm.MethodName)) ∈ BW := bw_of 14 (by decide +kernel) rfl
theorem bw_p15 : (Jvm.Cond.selects "Badgewood" ({ cls := "Badgewood", name := "smallestPatrol", desc := "(I)I" } : Jvm.MethodName) ({ cls := "Badgewood", name := "smallestPatrol", desc := "(I)I" } : Jvm.MethodName)) ∈ BW := bw_of 15 (by decide +kernel) rfl
theorem bw_p16 : (Jvm.Cond.selects "Badgewood" ({ cls := "Badgewood", name := "letFirstIn", desc := "(I)I" } : Jvm.MethodName) ({ cls := "Badgewood", name := "letFirstIn", desc := "(I)I" } : Jvm.MethodName)) ∈ BW := bw_of 16 (by decide +kernel) rfl
theorem bw_p17 : (Jvm.Cond.selects "Badgewood" ({ cls := "Badgewood", name := "firstWaiting", desc := "(I)LBadgewood$Child;" } : Jvm.MethodName) ({ cls := "Badgewood", name := "firstWaiting", desc := "(I)LBadgewood$Child;" } : Jvm.MethodName)) ∈ BW := bw_of 17 (by decide +kernel) rfl
theorem bw_p18 : (Jvm.Cond.selects "Badgewood" ({ cls := "Badgewood", name := "sendOutByAge", desc := "()I" } : Jvm.MethodName) ({ cls := "Badgewood", name := "sendOutByAge", desc := "()I" } : Jvm.MethodName)) ∈ BW := bw_of 18 (by decide +kernel) rfl
theorem bw_p19 : (Jvm.Cond.selects "Badgewood" ({ cls := "Badgewood", name := "sendOutOf", desc := "(LBadgewood$Troop;)I" } : Jvm.MethodName) ({ cls := "Badgewood", name := "sendOutOf", desc := "(LBadgewood$Troop;)I" } : Jvm.MethodName)) ∈ BW := bw_of 19 (by decide +kernel) rfl
theorem bw_p20 : (Jvm.Cond.selects "Badgewood" ({ cls := "Badgewood", name := "fillUp", desc := "(LBadgewood$Troop;)V" } : Jvm.MethodName) ({ cls := "Badgewood", name := "fillUp", desc := "(LBadgewood$Troop;)V" } : Jvm.MethodName)) ∈ BW := bw_of 20 (by decide +kernel) rfl
theorem bw_p21 : (Jvm.Cond.selects "Badgewood" ({ cls := "Badgewood", name := "moveUp", desc := "(LBadgewood$Child;)V" } : Jvm.MethodName) ({ cls := "Badgewood", name := "moveUp", desc := "(LBadgewood$Child;)V" } : Jvm.MethodName)) ∈ BW := bw_of 21 (by decide +kernel) rfl
theorem bw_p22 : (Jvm.Cond.selects "Badgewood" ({ cls := "Badgewood", name := "leaderAt", desc := "(I)LBadgewood$Leader;" } : Jvm.MethodName) ({ cls := "Badgewood", name := "leaderAt", desc := "(I)LBadgewood$Leader;" } : Jvm.MethodName)) ∈ BW := bw_of 22 (by decide +kernel) rfl
theorem bw_p23 : (Jvm.Cond.selects "Badgewood" ({ cls := "Badgewood", name := "badgeAt", desc := "(I)LBadgewood$Badge;" } : Jvm.MethodName) ({ cls := "Badgewood", name := "badgeAt", desc := "(I)LBadgewood$Badge;" } : Jvm.MethodName)) ∈ BW := bw_of 23 (by decide +kernel) rfl
theorem bw_p24 : (Jvm.Cond.selects "Badgewood$Child" ({ cls := "Badgewood$Child", name := "reckonBadges", desc := "()V" } : Jvm.MethodName) ({ cls := "Badgewood$Child", name := "reckonBadges", desc := "()V" } : Jvm.MethodName)) ∈ BW := bw_of 24 (by decide +kernel) rfl
theorem bw_p25 : (Jvm.Cond.selects "Badgewood$Child" ({ cls := "Badgewood$Child", name := "dayAfterBefore", desc := "(LBadgewood$Edition;)I" } : Jvm.MethodName) ({ cls := "Badgewood$Child", name := "dayAfterBefore", desc := "(LBadgewood$Edition;)I" } : Jvm.MethodName)) ∈ BW := bw_of 25 (by decide +kernel) rfl
theorem bw_p26 : (Jvm.Cond.selects "Badgewood$Child" ({ cls := "Badgewood$Child", name := "dayProven", desc := "(LBadgewood$Edition;)I" } : Jvm.MethodName) ({ cls := "Badgewood$Child", name := "dayProven", desc := "(LBadgewood$Edition;)I" } : Jvm.MethodName)) ∈ BW := bw_of 26 (by decide +kernel) rfl
theorem bw_p27 : (Jvm.Cond.selects "Badgewood" ({ cls := "Badgewood", name := "isElsewhere", desc := "(LBadgewood$Event;I)Z" } : Jvm.MethodName) ({ cls := "Badgewood", name := "isElsewhere", desc := "(LBadgewood$Event;I)Z" } : Jvm.MethodName)) ∈ BW := bw_of 27 (by decide +kernel) rfl
theorem bw_p28 : (Jvm.Cond.selects "Badgewood" ({ cls := "Badgewood", name := "eventsIn", desc := "(II)I" } : Jvm.MethodName) ({ cls := "Badgewood", name := "eventsIn", desc := "(II)I" } : Jvm.MethodName)) ∈ BW := bw_of 28 (by decide +kernel) rfl
theorem bw_p29 : (Jvm.Cond.selects "Badgewood" ({ cls := "Badgewood", name := "needsIn", desc := "(II)Ljava/util/ArrayList;" } : Jvm.MethodName) ({ cls := "Badgewood", name := "needsIn", desc := "(II)Ljava/util/ArrayList;" } : Jvm.MethodName)) ∈ BW := bw_of 29 (by decide +kernel) rfl
theorem kwX0 : ∀ w ∈ u_ws RX0 TX0 1, w ∈ BW := bw_all [101] (by decide +kernel) (by decide +kernel)
theorem kwX1 : ∀ w ∈ u_ws RX1 TX1 14, w ∈ BW := bw_all [541, 543, 545, 547, 549, 551, 553, 555, 557, 559, 561, 563, 565, 567] (by decide +kernel) (by decide +kernel)
theorem kwX2 : ∀ w ∈ u_ws RX2 TX2 3, w ∈ BW := bw_all [717, 719, 721] (by decide +kernel) (by decide +kernel)
theorem kwX3 : ∀ w ∈ u_ws RX3 TX3 6, w ∈ BW := bw_all [842, 844, 846, 848, 850, 852] (by decide +kernel) (by decide +kernel)
theorem kwX4 : ∀ w ∈ u_ws RX4 TX4 7, w ∈ BW := bw_all [885, 887, 889, 891, 893, 895, 897] (by decide +kernel) (by decide +kernel)
theorem kwX5 : ∀ w ∈ u_ws RX5 TX5 4, w ∈ BW := bw_all [657, 659, 661, 663] (by decide +kernel) (by decide +kernel)
theorem kwX6 : ∀ w ∈ u_ws RX6 TX6 5, w ∈ BW := bw_all [373, 375, 377, 379, 381] (by decide +kernel) (by decide +kernel)
theorem kwX7 : ∀ w ∈ u_ws RX7 TX7 4, w ∈ BW := bw_all [440, 442, 444, 446] (by decide +kernel) (by decide +kernel)
theorem kwX8 : ∀ w ∈ u_ws RX8 TX8 7, w ∈ BW := bw_all [111, 113, 115, 117, 119, 121, 123] (by decide +kernel) (by decide +kernel)
theorem kwJx4a65c : ∀ w ∈ u_ws RJx4a65c TJx4a65c 3, w ∈ BW := bw_all [87, 83, 85] (by decide +kernel) (by decide +kernel)
def STRS : List (String × Nat × String) := [("Badgewood", 300, "there is none of this number"), ("Badgewood", 275, "there is no such thing to tell of a child"), ("Badgewood", 303, "an argument is out of its range"), ("Badgewood", 305, "there are as many as there may be"), ("Badgewood", 80, "the child is in a troop or waits for one"), ("Badgewood", 92, "the troop is not for the age of the child"), ("Badgewood", 98, "the child is in no troop and waits for none"), ("Badgewood", 107, "the child is in no troop"), ("Badgewood", 122, "there are no days left"), ("Badgewood", 188, "the badge has no edition"), ("Badgewood", 194, "the badge was begun"), ("Badgewood", 208, "the leader is vetted for no land today"), ("Badgewood", 210, "the leader does not teach the skill"), ("Badgewood", 215, "the skill was proven"), ("Badgewood", 234, "the leader is at another event then"), ("Badgewood", 250, "too many events go on"), ("Badgewood", 266, "the child owes to another troop"), ("Badgewood", 271, "the child would have taken too many boxes"), ("Badgewood", 273, "the child owes fewer coins"), ("Badgewood", 289, "the badge was not begun"), ("Badgewood", 177, "both sets have a skill in common")]
