/-! the words of the tables, a row each: kw_ are words of gt, nw_ words of nwt (printed by program) -/
theorem kw_0 : (Jvm.Cond.selects "WearHours$Planner" ({ cls := "WearHours$Planner", name := "freeAll", desc := "()V" } : Jvm.MethodName) ({ cls := "WearHours$Planner", name := "freeAll", desc := "()V" } : Jvm.MethodName)) ∈ gt := gtn (tb0 0 rfl) rfl
theorem kw_1 : (Jvm.Cond.selects "WearHours$Planner" ({ cls := "WearHours$Planner", name := "sumFloors", desc := "()V" } : Jvm.MethodName) ({ cls := "WearHours$Planner", name := "sumFloors", desc := "()V" } : Jvm.MethodName)) ∈ gt := gtn (tb0 1 rfl) rfl
theorem kw_2 : (Jvm.Cond.selects "WearHours$Planner" ({ cls := "WearHours$Planner", name := "firstBeginning", desc := "(LWearHours$Repair;I)I" } : Jvm.MethodName) ({ cls := "WearHours$Planner", name := "firstBeginning", desc := "(LWearHours$Repair;I)I" } : Jvm.MethodName)) ∈ gt := gtn (tb0 2 rfl) rfl
theorem kw_3 : (Jvm.Cond.selects "WearHours$Planner" ({ cls := "WearHours$Planner", name := "beginning", desc := "(LWearHours$Repair;II)I" } : Jvm.MethodName) ({ cls := "WearHours$Planner", name := "beginning", desc := "(LWearHours$Repair;II)I" } : Jvm.MethodName)) ∈ gt := gtn (tb0 3 rfl) rfl
theorem kw_4 : (Jvm.Cond.selects "WearHours$Planner" ({ cls := "WearHours$Planner", name := "leastCost", desc := "(II)I" } : Jvm.MethodName) ({ cls := "WearHours$Planner", name := "leastCost", desc := "(II)I" } : Jvm.MethodName)) ∈ gt := gtn (tb0 4 rfl) rfl
theorem kw_5 : (Jvm.Cond.selects "WearHours$Planner" ({ cls := "WearHours$Planner", name := "costBy", desc := "(IIII)I" } : Jvm.MethodName) ({ cls := "WearHours$Planner", name := "costBy", desc := "(IIII)I" } : Jvm.MethodName)) ∈ gt := gtn (tb0 5 rfl) rfl
theorem kw_6 : (Jvm.Cond.selects "WearHours$Planner" ({ cls := "WearHours$Planner", name := "occupy", desc := "(LWearHours$Repair;II)V" } : Jvm.MethodName) ({ cls := "WearHours$Planner", name := "occupy", desc := "(LWearHours$Repair;II)V" } : Jvm.MethodName)) ∈ gt := gtn (tb0 6 rfl) rfl
theorem kw_7 : (Jvm.Cond.selects "WearHours$Planner" ({ cls := "WearHours$Planner", name := "settle", desc := "(II)I" } : Jvm.MethodName) ({ cls := "WearHours$Planner", name := "settle", desc := "(II)I" } : Jvm.MethodName)) ∈ gt := gtn (tb0 7 rfl) rfl
theorem kw_8 : (Jvm.Cond.selects "java/lang/Throwable" ({ cls := "java/lang/Throwable", name := "fillInStackTrace", desc := "(I)Ljava/lang/Throwable;" } : Jvm.MethodName) ({ cls := "java/lang/Throwable", name := "fillInStackTrace", desc := "(I)Ljava/lang/Throwable;" } : Jvm.MethodName)) ∈ gt := gtn (tb0 8 rfl) rfl
theorem kw_9 : (Jvm.Cond.selects "WearHours" ({ cls := "WearHours", name := "knownThing", desc := "(I)LWearHours$Thing;" } : Jvm.MethodName) ({ cls := "WearHours", name := "knownThing", desc := "(I)LWearHours$Thing;" } : Jvm.MethodName)) ∈ gt := gtn (tb0 9 rfl) rfl
theorem kw_10 : (Jvm.Cond.selects "WearHours$Thing" ({ cls := "WearHours$Thing", name := "keep", desc := "(I)V" } : Jvm.MethodName) ({ cls := "WearHours$Thing", name := "keep", desc := "(I)V" } : Jvm.MethodName)) ∈ gt := gtn (tb0 10 rfl) rfl
theorem kw_11 : (Jvm.Cond.selects "WearHours" ({ cls := "WearHours", name := "drawnNumber", desc := "(J)J" } : Jvm.MethodName) ({ cls := "WearHours", name := "drawnNumber", desc := "(J)J" } : Jvm.MethodName)) ∈ gt := gtn (tb0 11 rfl) rfl
theorem kw_12 : (Jvm.Cond.selects "WearHours" ({ cls := "WearHours", name := "checkPlan", desc := "()V" } : Jvm.MethodName) ({ cls := "WearHours", name := "checkPlan", desc := "()V" } : Jvm.MethodName)) ∈ gt := gtn (tb0 12 rfl) rfl
theorem kw_13 : (Jvm.Cond.selects "WearHoursModel" ({ cls := "WearHoursModel", name := "goes", desc := "(ZZZ)Z" } : Jvm.MethodName) ({ cls := "WearHoursModel", name := "goes", desc := "(ZZZ)Z" } : Jvm.MethodName)) ∈ gt := gtn (tb0 13 rfl) rfl
theorem kw_14 : (Jvm.Cond.selects "WearHoursModel" ({ cls := "WearHoursModel", name := "isThing", desc := "(I)Z" } : Jvm.MethodName) ({ cls := "WearHoursModel", name := "isThing", desc := "(I)Z" } : Jvm.MethodName)) ∈ gt := gtn (tb0 14 rfl) rfl
theorem kw_15 : (Jvm.Cond.selects "WearHoursModel" ({ cls := "WearHoursModel", name := "isBarred", desc := "(I)Z" } : Jvm.MethodName) ({ cls := "WearHoursModel", name := "isBarred", desc := "(I)Z" } : Jvm.MethodName)) ∈ gt := gtn (tb0 15 rfl) rfl
theorem kw_16 : (Jvm.Cond.selects "WearHoursModel" ({ cls := "WearHoursModel", name := "keep", desc := "(II)V" } : Jvm.MethodName) ({ cls := "WearHoursModel", name := "keep", desc := "(II)V" } : Jvm.MethodName)) ∈ gt := gtn (tb0 16 rfl) rfl
theorem kw_17 : (Jvm.Cond.selects "WearHoursModel" ({ cls := "WearHoursModel", name := "number", desc := "(I)J" } : Jvm.MethodName) ({ cls := "WearHoursModel", name := "number", desc := "(I)J" } : Jvm.MethodName)) ∈ gt := gtn (tb0 17 rfl) rfl
theorem kw_18 : (Jvm.Cond.selects "WearHoursModel" ({ cls := "WearHoursModel", name := "best", desc := "()V" } : Jvm.MethodName) ({ cls := "WearHoursModel", name := "best", desc := "()V" } : Jvm.MethodName)) ∈ gt := gtn (tb0 18 rfl) rfl
theorem kw_19 : (Jvm.Cond.selects "WearHoursModel" ({ cls := "WearHoursModel", name := "begins", desc := "(III)I" } : Jvm.MethodName) ({ cls := "WearHoursModel", name := "begins", desc := "(III)I" } : Jvm.MethodName)) ∈ gt := gtn (tb0 19 rfl) rfl
theorem kw_20 : (Jvm.Cond.selects "WearHoursModel" ({ cls := "WearHoursModel", name := "take", desc := "(I)V" } : Jvm.MethodName) ({ cls := "WearHoursModel", name := "take", desc := "(I)V" } : Jvm.MethodName)) ∈ gt := gtn (tb0 20 rfl) rfl
theorem kw_21 : (Jvm.Cond.initialized "WearHoursLaw") ∈ gt := gtn (tb1 0 rfl) rfl
theorem kw_22 : (Jvm.Cond.initialized "WearHours") ∈ gt := gtn (tb1 1 rfl) rfl
theorem kw_23 : (Jvm.Cond.initialized "WearHours$Thing") ∈ gt := gtn (tb1 2 rfl) rfl
theorem kw_24 : (Jvm.Cond.initialized "WearHours$Week") ∈ gt := gtn (tb1 3 rfl) rfl
theorem kw_25 : (Jvm.Cond.initialized "WearHours$Gap") ∈ gt := gtn (tb1 4 rfl) rfl
theorem kw_26 : (Jvm.Cond.initialized "WearHours$Person") ∈ gt := gtn (tb1 5 rfl) rfl
theorem kw_27 : (Jvm.Cond.initialized "WearHours$Repair") ∈ gt := gtn (tb1 6 rfl) rfl
theorem kw_28 : (Jvm.Cond.initialized "WearHours$Planner") ∈ gt := gtn (tb1 7 rfl) rfl
theorem kw_29 : (Jvm.Cond.initialized "WearHoursModel") ∈ gt := gtn (tb1 8 rfl) rfl
theorem kw_30 : (Jvm.Cond.initialized "java/lang/Throwable") ∈ gt := gtn (tb1 9 rfl) rfl
theorem kw_31 : (Jvm.Cond.initialized "java/lang/Exception") ∈ gt := gtn (tb1 10 rfl) rfl
theorem kw_32 : (Jvm.Cond.initialized "java/lang/RuntimeException") ∈ gt := gtn (tb1 11 rfl) rfl
theorem kw_33 : (Jvm.Cond.initialized "java/lang/IllegalArgumentException") ∈ gt := gtn (tb1 12 rfl) rfl
theorem kw_34 : (Jvm.Cond.initialized "java/lang/UnsupportedOperationException") ∈ gt := gtn (tb1 13 rfl) rfl
theorem kw_35 : (Jvm.Cond.initialized "java/lang/IndexOutOfBoundsException") ∈ gt := gtn (tb1 14 rfl) rfl
theorem kw_36 : (Jvm.Cond.initialized "java/lang/IllegalStateException") ∈ gt := gtn (tb1 15 rfl) rfl
theorem kw_37 : (Jvm.Cond.initialized "java/lang/Math") ∈ gt := gtn (tb1 16 rfl) rfl
theorem kw_38 : (Jvm.Cond.classLink "WearHoursLaw" (8 : Nat) "WearHours") ∈ gt := gtn (tb1 17 rfl) rfl
theorem kw_39 : (Jvm.Cond.instantiable "WearHours" (6 : Nat)) ∈ gt := gtn (tb1 18 rfl) rfl
theorem kw_40 : (Jvm.Cond.methodLink "WearHoursLaw" (65 : Nat) ({ cls := "WearHours", name := "<init>", desc := "()V" } : Jvm.MethodName)) ∈ gt := gtn (tb1 19 rfl) rfl
theorem kw_41 : (Jvm.Cond.instanceMethod ({ cls := "WearHours", name := "<init>", desc := "()V" } : Jvm.MethodName)) ∈ gt := gtn (tb1 20 rfl) rfl
theorem kw_42 : (Jvm.Cond.code ({ cls := "WearHours", name := "<init>", desc := "()V" } : Jvm.MethodName) prog_1_method_1_code (2 : Nat) (Option.none : Option Jvm.ClassFile.FieldType)) ∈ gt := gtn (tb1 21 rfl) rfl
theorem kw_43 : (Jvm.Cond.methodLink "WearHours" (1 : Nat) ({ cls := "java/lang/Object", name := "<init>", desc := "()V" } : Jvm.MethodName)) ∈ gt := gtn (tb1 22 rfl) rfl
theorem kw_44 : (Jvm.Cond.instanceMethod ({ cls := "java/lang/Object", name := "<init>", desc := "()V" } : Jvm.MethodName)) ∈ gt := gtn (tb1 23 rfl) rfl
theorem kw_45 : (Jvm.Cond.code ({ cls := "java/lang/Object", name := "<init>", desc := "()V" } : Jvm.MethodName) object_method_1_code (1 : Nat) (Option.none : Option Jvm.ClassFile.FieldType)) ∈ gt := gtn (tb1 24 rfl) rfl
theorem kw_46 : (Jvm.Cond.classLink "WearHours" (13 : Nat) "WearHours$Thing") ∈ gt := gtn (tb1 25 rfl) rfl
theorem kw_48 : (Jvm.Cond.instantiable "WearHours$Thing" (5 : Nat)) ∈ gt := gtn (tb1 27 rfl) rfl
theorem kw_49 : (Jvm.Cond.methodLink "WearHours" (19 : Nat) ({ cls := "WearHours$Thing", name := "<init>", desc := "()V" } : Jvm.MethodName)) ∈ gt := gtn (tb1 28 rfl) rfl
theorem kw_50 : (Jvm.Cond.instanceMethod ({ cls := "WearHours$Thing", name := "<init>", desc := "()V" } : Jvm.MethodName)) ∈ gt := gtn (tb1 29 rfl) rfl
theorem kw_51 : (Jvm.Cond.code ({ cls := "WearHours$Thing", name := "<init>", desc := "()V" } : Jvm.MethodName) prog_6_method_1_code (1 : Nat) (Option.none : Option Jvm.ClassFile.FieldType)) ∈ gt := gtn (tb1 30 rfl) rfl
theorem kw_52 : (Jvm.Cond.methodLink "WearHours$Thing" (1 : Nat) ({ cls := "java/lang/Object", name := "<init>", desc := "()V" } : Jvm.MethodName)) ∈ gt := gtn (tb1 31 rfl) rfl
theorem kw_53 : (Jvm.Cond.fieldLink "WearHours$Thing" (13 : Nat) "WearHours$Thing" "life" "I") ∈ gt := gtn (tb1 32 rfl) rfl
theorem nw_54 : (Jvm.Cond.fieldLinkNest "WearHours" (104 : Nat) "WearHours$Thing" "life" "I" "WearHours") ∈ nwt := nwm (tb1 33 rfl) rfl
theorem kw_55 : (Jvm.Cond.fieldLink "WearHours$Thing" (17 : Nat) "WearHours$Thing" "bound" "I") ∈ gt := gtn (tb1 34 rfl) rfl
theorem kw_56 : (Jvm.Cond.fieldLink "WearHours$Thing" (24 : Nat) "WearHours$Thing" "sum" "I") ∈ gt := gtn (tb1 35 rfl) rfl
theorem nw_57 : (Jvm.Cond.fieldLinkNest "WearHours" (84 : Nat) "WearHours$Thing" "sum" "I" "WearHours") ∈ nwt := nwm (tb1 36 rfl) rfl
theorem kw_58 : (Jvm.Cond.fieldLink "WearHours$Thing" (20 : Nat) "WearHours$Thing" "open" "Z") ∈ gt := gtn (tb1 37 rfl) rfl
theorem nw_59 : (Jvm.Cond.fieldLinkNest "WearHours" (113 : Nat) "WearHours$Thing" "open" "Z" "WearHours") ∈ nwt := nwm (tb1 38 rfl) rfl
theorem kw_60 : (Jvm.Cond.fieldLink "WearHours$Thing" (9 : Nat) "WearHours$Thing" "changes" "[I") ∈ gt := gtn (tb1 39 rfl) rfl
theorem kw_61 : (Jvm.Cond.lays "WearHours$Thing" "WearHours$Thing" "life" "I") ∈ gt := gtn (tb1 40 rfl) rfl
theorem kw_63 : (Jvm.Cond.lays "WearHours$Thing" "WearHours$Thing" "bound" "I") ∈ gt := gtn (tb1 42 rfl) rfl
theorem kw_65 : (Jvm.Cond.lays "WearHours$Thing" "WearHours$Thing" "sum" "I") ∈ gt := gtn (tb1 44 rfl) rfl
theorem kw_67 : (Jvm.Cond.lays "WearHours$Thing" "WearHours$Thing" "open" "Z") ∈ gt := gtn (tb1 46 rfl) rfl
theorem kw_69 : (Jvm.Cond.laysFinal "WearHours$Thing" "WearHours$Thing" "changes" "[I") ∈ gt := gtn (tb1 48 rfl) rfl
theorem kw_72 : (Jvm.Cond.arrayClass Jvm.ClassFile.FieldType.int) ∈ gt := gtn (tb1 51 rfl) rfl
theorem kw_73 : (Jvm.Cond.classLink "WearHours" (24 : Nat) "WearHours$Week") ∈ gt := gtn (tb1 52 rfl) rfl
theorem kw_74 : (Jvm.Cond.instantiable "WearHours$Week" (8 : Nat)) ∈ gt := gtn (tb1 53 rfl) rfl
theorem kw_75 : (Jvm.Cond.methodLink "WearHours" (26 : Nat) ({ cls := "WearHours$Week", name := "<init>", desc := "()V" } : Jvm.MethodName)) ∈ gt := gtn (tb1 54 rfl) rfl
theorem kw_76 : (Jvm.Cond.instanceMethod ({ cls := "WearHours$Week", name := "<init>", desc := "()V" } : Jvm.MethodName)) ∈ gt := gtn (tb1 55 rfl) rfl
theorem kw_77 : (Jvm.Cond.code ({ cls := "WearHours$Week", name := "<init>", desc := "()V" } : Jvm.MethodName) prog_7_method_1_code (2 : Nat) (Option.none : Option Jvm.ClassFile.FieldType)) ∈ gt := gtn (tb1 56 rfl) rfl
theorem kw_78 : (Jvm.Cond.methodLink "WearHours$Week" (1 : Nat) ({ cls := "java/lang/Object", name := "<init>", desc := "()V" } : Jvm.MethodName)) ∈ gt := gtn (tb1 57 rfl) rfl
theorem kw_79 : (Jvm.Cond.classLink "WearHours$Week" (9 : Nat) "WearHours$Gap") ∈ gt := gtn (tb1 58 rfl) rfl
theorem kw_81 : (Jvm.Cond.instantiable "WearHours$Gap" (2 : Nat)) ∈ gt := gtn (tb1 60 rfl) rfl
theorem nw_82 : (Jvm.Cond.methodLinkNest "WearHours$Week" (15 : Nat) ({ cls := "WearHours$Gap", name := "<init>", desc := "()V" } : Jvm.MethodName) "WearHours") ∈ nwt := nwm (tb1 61 rfl) rfl
theorem kw_83 : (Jvm.Cond.instanceMethod ({ cls := "WearHours$Gap", name := "<init>", desc := "()V" } : Jvm.MethodName)) ∈ gt := gtn (tb1 62 rfl) rfl
theorem kw_84 : (Jvm.Cond.code ({ cls := "WearHours$Gap", name := "<init>", desc := "()V" } : Jvm.MethodName) prog_2_method_1_code (1 : Nat) (Option.none : Option Jvm.ClassFile.FieldType)) ∈ gt := gtn (tb1 63 rfl) rfl
theorem kw_85 : (Jvm.Cond.methodLink "WearHours$Gap" (1 : Nat) ({ cls := "java/lang/Object", name := "<init>", desc := "()V" } : Jvm.MethodName)) ∈ gt := gtn (tb1 64 rfl) rfl
theorem nw_86 : (Jvm.Cond.fieldLinkNest "WearHours$Week" (40 : Nat) "WearHours$Gap" "from" "I" "WearHours") ∈ nwt := nwm (tb1 65 rfl) rfl
theorem nw_87 : (Jvm.Cond.fieldLinkNest "WearHours$Planner" (129 : Nat) "WearHours$Gap" "from" "I" "WearHours") ∈ nwt := nwm (tb1 66 rfl) rfl
theorem nw_88 : (Jvm.Cond.fieldLinkNest "WearHours$Week" (43 : Nat) "WearHours$Gap" "to" "I" "WearHours") ∈ nwt := nwm (tb1 67 rfl) rfl
theorem nw_89 : (Jvm.Cond.fieldLinkNest "WearHours$Planner" (138 : Nat) "WearHours$Gap" "to" "I" "WearHours") ∈ nwt := nwm (tb1 68 rfl) rfl
theorem kw_90 : (Jvm.Cond.lays "WearHours$Gap" "WearHours$Gap" "from" "I") ∈ gt := gtn (tb1 69 rfl) rfl
theorem kw_92 : (Jvm.Cond.lays "WearHours$Gap" "WearHours$Gap" "to" "I") ∈ gt := gtn (tb1 71 rfl) rfl
theorem kw_95 : (Jvm.Cond.classLink "WearHours$Week" (16 : Nat) "WearHours$Person") ∈ gt := gtn (tb1 74 rfl) rfl
theorem kw_97 : (Jvm.Cond.instantiable "WearHours$Person" (3 : Nat)) ∈ gt := gtn (tb1 76 rfl) rfl
theorem nw_98 : (Jvm.Cond.methodLinkNest "WearHours$Week" (22 : Nat) ({ cls := "WearHours$Person", name := "<init>", desc := "()V" } : Jvm.MethodName) "WearHours") ∈ nwt := nwm (tb1 77 rfl) rfl
theorem kw_99 : (Jvm.Cond.instanceMethod ({ cls := "WearHours$Person", name := "<init>", desc := "()V" } : Jvm.MethodName)) ∈ gt := gtn (tb1 78 rfl) rfl
theorem kw_100 : (Jvm.Cond.code ({ cls := "WearHours$Person", name := "<init>", desc := "()V" } : Jvm.MethodName) prog_3_method_1_code (1 : Nat) (Option.none : Option Jvm.ClassFile.FieldType)) ∈ gt := gtn (tb1 79 rfl) rfl
theorem kw_101 : (Jvm.Cond.methodLink "WearHours$Person" (1 : Nat) ({ cls := "java/lang/Object", name := "<init>", desc := "()V" } : Jvm.MethodName)) ∈ gt := gtn (tb1 80 rfl) rfl
theorem nw_102 : (Jvm.Cond.fieldLinkNest "WearHours$Week" (49 : Nat) "WearHours$Person" "skill" "I" "WearHours") ∈ nwt := nwm (tb1 81 rfl) rfl
theorem nw_103 : (Jvm.Cond.fieldLinkNest "WearHours$Planner" (119 : Nat) "WearHours$Person" "skill" "I" "WearHours") ∈ nwt := nwm (tb1 82 rfl) rfl
theorem nw_104 : (Jvm.Cond.fieldLinkNest "WearHours$Week" (52 : Nat) "WearHours$Person" "from" "I" "WearHours") ∈ nwt := nwm (tb1 83 rfl) rfl
theorem nw_105 : (Jvm.Cond.fieldLinkNest "WearHours$Planner" (134 : Nat) "WearHours$Person" "from" "I" "WearHours") ∈ nwt := nwm (tb1 84 rfl) rfl
theorem nw_106 : (Jvm.Cond.fieldLinkNest "WearHours$Week" (53 : Nat) "WearHours$Person" "to" "I" "WearHours") ∈ nwt := nwm (tb1 85 rfl) rfl
theorem nw_107 : (Jvm.Cond.fieldLinkNest "WearHours$Planner" (141 : Nat) "WearHours$Person" "to" "I" "WearHours") ∈ nwt := nwm (tb1 86 rfl) rfl
theorem kw_108 : (Jvm.Cond.lays "WearHours$Person" "WearHours$Person" "skill" "I") ∈ gt := gtn (tb1 87 rfl) rfl
theorem kw_110 : (Jvm.Cond.lays "WearHours$Person" "WearHours$Person" "from" "I") ∈ gt := gtn (tb1 89 rfl) rfl
theorem kw_112 : (Jvm.Cond.lays "WearHours$Person" "WearHours$Person" "to" "I") ∈ gt := gtn (tb1 91 rfl) rfl
theorem kw_115 : (Jvm.Cond.classLink "WearHours$Week" (23 : Nat) "WearHours$Repair") ∈ gt := gtn (tb1 94 rfl) rfl
theorem kw_117 : (Jvm.Cond.instantiable "WearHours$Repair" (7 : Nat)) ∈ gt := gtn (tb1 96 rfl) rfl
theorem nw_118 : (Jvm.Cond.methodLinkNest "WearHours$Week" (29 : Nat) ({ cls := "WearHours$Repair", name := "<init>", desc := "()V" } : Jvm.MethodName) "WearHours") ∈ nwt := nwm (tb1 97 rfl) rfl
theorem kw_119 : (Jvm.Cond.instanceMethod ({ cls := "WearHours$Repair", name := "<init>", desc := "()V" } : Jvm.MethodName)) ∈ gt := gtn (tb1 98 rfl) rfl
theorem kw_120 : (Jvm.Cond.code ({ cls := "WearHours$Repair", name := "<init>", desc := "()V" } : Jvm.MethodName) prog_5_method_1_code (1 : Nat) (Option.none : Option Jvm.ClassFile.FieldType)) ∈ gt := gtn (tb1 99 rfl) rfl
theorem kw_121 : (Jvm.Cond.methodLink "WearHours$Repair" (1 : Nat) ({ cls := "java/lang/Object", name := "<init>", desc := "()V" } : Jvm.MethodName)) ∈ gt := gtn (tb1 100 rfl) rfl
theorem nw_122 : (Jvm.Cond.fieldLinkNest "WearHours$Week" (57 : Nat) "WearHours$Repair" "thing" "I" "WearHours") ∈ nwt := nwm (tb1 101 rfl) rfl
theorem nw_123 : (Jvm.Cond.fieldLinkNest "WearHours$Planner" (106 : Nat) "WearHours$Repair" "thing" "I" "WearHours") ∈ nwt := nwm (tb1 102 rfl) rfl
theorem nw_124 : (Jvm.Cond.fieldLinkNest "WearHours" (215 : Nat) "WearHours$Repair" "thing" "I" "WearHours") ∈ nwt := nwm (tb1 103 rfl) rfl
theorem nw_125 : (Jvm.Cond.fieldLinkNest "WearHours$Week" (60 : Nat) "WearHours$Repair" "hours" "I" "WearHours") ∈ nwt := nwm (tb1 104 rfl) rfl
theorem nw_126 : (Jvm.Cond.fieldLinkNest "WearHours$Planner" (109 : Nat) "WearHours$Repair" "hours" "I" "WearHours") ∈ nwt := nwm (tb1 105 rfl) rfl
theorem nw_127 : (Jvm.Cond.fieldLinkNest "WearHours$Week" (63 : Nat) "WearHours$Repair" "skill" "I" "WearHours") ∈ nwt := nwm (tb1 106 rfl) rfl
theorem nw_128 : (Jvm.Cond.fieldLinkNest "WearHours$Planner" (124 : Nat) "WearHours$Repair" "skill" "I" "WearHours") ∈ nwt := nwm (tb1 107 rfl) rfl
theorem nw_129 : (Jvm.Cond.fieldLinkNest "WearHours" (212 : Nat) "WearHours$Repair" "skill" "I" "WearHours") ∈ nwt := nwm (tb1 108 rfl) rfl
theorem nw_130 : (Jvm.Cond.fieldLinkNest "WearHours$Week" (64 : Nat) "WearHours$Repair" "waiting" "I" "WearHours") ∈ nwt := nwm (tb1 109 rfl) rfl
theorem nw_131 : (Jvm.Cond.fieldLinkNest "WearHours$Planner" (76 : Nat) "WearHours$Repair" "waiting" "I" "WearHours") ∈ nwt := nwm (tb1 110 rfl) rfl
theorem kw_132 : (Jvm.Cond.fieldLink "WearHours$Repair" (7 : Nat) "WearHours$Repair" "hour" "I") ∈ gt := gtn (tb1 111 rfl) rfl
theorem nw_133 : (Jvm.Cond.fieldLinkNest "WearHours" (195 : Nat) "WearHours$Repair" "hour" "I" "WearHours") ∈ nwt := nwm (tb1 112 rfl) rfl
theorem kw_134 : (Jvm.Cond.fieldLink "WearHours$Repair" (13 : Nat) "WearHours$Repair" "person" "I") ∈ gt := gtn (tb1 113 rfl) rfl
theorem nw_135 : (Jvm.Cond.fieldLinkNest "WearHours" (200 : Nat) "WearHours$Repair" "person" "I" "WearHours") ∈ nwt := nwm (tb1 114 rfl) rfl
theorem kw_136 : (Jvm.Cond.fieldLink "WearHours$Repair" (16 : Nat) "WearHours$Repair" "gap" "I") ∈ gt := gtn (tb1 115 rfl) rfl
theorem nw_137 : (Jvm.Cond.fieldLinkNest "WearHours" (203 : Nat) "WearHours$Repair" "gap" "I" "WearHours") ∈ nwt := nwm (tb1 116 rfl) rfl
theorem kw_138 : (Jvm.Cond.lays "WearHours$Repair" "WearHours$Repair" "thing" "I") ∈ gt := gtn (tb1 117 rfl) rfl
theorem kw_140 : (Jvm.Cond.lays "WearHours$Repair" "WearHours$Repair" "hours" "I") ∈ gt := gtn (tb1 119 rfl) rfl
theorem kw_142 : (Jvm.Cond.lays "WearHours$Repair" "WearHours$Repair" "skill" "I") ∈ gt := gtn (tb1 121 rfl) rfl
theorem kw_144 : (Jvm.Cond.lays "WearHours$Repair" "WearHours$Repair" "waiting" "I") ∈ gt := gtn (tb1 123 rfl) rfl
theorem kw_146 : (Jvm.Cond.lays "WearHours$Repair" "WearHours$Repair" "hour" "I") ∈ gt := gtn (tb1 125 rfl) rfl
theorem kw_148 : (Jvm.Cond.lays "WearHours$Repair" "WearHours$Repair" "person" "I") ∈ gt := gtn (tb1 127 rfl) rfl
theorem kw_150 : (Jvm.Cond.lays "WearHours$Repair" "WearHours$Repair" "gap" "I") ∈ gt := gtn (tb1 129 rfl) rfl
theorem kw_153 : (Jvm.Cond.fieldLink "WearHours$Week" (11 : Nat) "WearHours$Week" "gaps" "[LWearHours$Gap;") ∈ gt := gtn (tb1 132 rfl) rfl
theorem nw_154 : (Jvm.Cond.fieldLinkNest "WearHours$Planner" (125 : Nat) "WearHours$Week" "gaps" "[LWearHours$Gap;" "WearHours") ∈ nwt := nwm (tb1 133 rfl) rfl
theorem kw_155 : (Jvm.Cond.fieldLink "WearHours$Week" (37 : Nat) "WearHours$Week" "gapCount" "I") ∈ gt := gtn (tb1 134 rfl) rfl
theorem nw_156 : (Jvm.Cond.fieldLinkNest "WearHours$Planner" (87 : Nat) "WearHours$Week" "gapCount" "I" "WearHours") ∈ nwt := nwm (tb1 135 rfl) rfl
theorem nw_157 : (Jvm.Cond.fieldLinkNest "WearHours" (135 : Nat) "WearHours$Week" "gapCount" "I" "WearHours") ∈ nwt := nwm (tb1 136 rfl) rfl
theorem kw_158 : (Jvm.Cond.fieldLink "WearHours$Week" (18 : Nat) "WearHours$Week" "persons" "[LWearHours$Person;") ∈ gt := gtn (tb1 137 rfl) rfl
theorem nw_159 : (Jvm.Cond.fieldLinkNest "WearHours$Planner" (115 : Nat) "WearHours$Week" "persons" "[LWearHours$Person;" "WearHours") ∈ nwt := nwm (tb1 138 rfl) rfl
theorem kw_160 : (Jvm.Cond.fieldLink "WearHours$Week" (46 : Nat) "WearHours$Week" "personCount" "I") ∈ gt := gtn (tb1 139 rfl) rfl
theorem nw_161 : (Jvm.Cond.fieldLinkNest "WearHours$Planner" (69 : Nat) "WearHours$Week" "personCount" "I" "WearHours") ∈ nwt := nwm (tb1 140 rfl) rfl
theorem nw_162 : (Jvm.Cond.fieldLinkNest "WearHours" (149 : Nat) "WearHours$Week" "personCount" "I" "WearHours") ∈ nwt := nwm (tb1 141 rfl) rfl
theorem kw_163 : (Jvm.Cond.fieldLink "WearHours$Week" (25 : Nat) "WearHours$Week" "repairs" "[LWearHours$Repair;") ∈ gt := gtn (tb1 142 rfl) rfl
theorem nw_164 : (Jvm.Cond.fieldLinkNest "WearHours$Planner" (55 : Nat) "WearHours$Week" "repairs" "[LWearHours$Repair;" "WearHours") ∈ nwt := nwm (tb1 143 rfl) rfl
theorem nw_165 : (Jvm.Cond.fieldLinkNest "WearHours" (191 : Nat) "WearHours$Week" "repairs" "[LWearHours$Repair;" "WearHours") ∈ nwt := nwm (tb1 144 rfl) rfl
theorem nw_166 : (Jvm.Cond.fieldLinkNest "WearHours$Planner" (49 : Nat) "WearHours$Week" "repairCount" "I" "WearHours") ∈ nwt := nwm (tb1 145 rfl) rfl
theorem kw_167 : (Jvm.Cond.fieldLink "WearHours$Week" (54 : Nat) "WearHours$Week" "repairCount" "I") ∈ gt := gtn (tb1 146 rfl) rfl
theorem nw_168 : (Jvm.Cond.fieldLinkNest "WearHours" (160 : Nat) "WearHours$Week" "repairCount" "I" "WearHours") ∈ nwt := nwm (tb1 147 rfl) rfl
theorem kw_169 : (Jvm.Cond.fieldLink "WearHours$Week" (30 : Nat) "WearHours$Week" "rest" "I") ∈ gt := gtn (tb1 148 rfl) rfl
theorem nw_170 : (Jvm.Cond.fieldLinkNest "WearHours$Planner" (112 : Nat) "WearHours$Week" "rest" "I" "WearHours") ∈ nwt := nwm (tb1 149 rfl) rfl
theorem nw_171 : (Jvm.Cond.fieldLinkNest "WearHours" (171 : Nat) "WearHours$Week" "rest" "I" "WearHours") ∈ nwt := nwm (tb1 150 rfl) rfl
theorem kw_172 : (Jvm.Cond.fieldLink "WearHours$Week" (34 : Nat) "WearHours$Week" "failing" "I") ∈ gt := gtn (tb1 151 rfl) rfl
theorem nw_173 : (Jvm.Cond.fieldLinkNest "WearHours" (174 : Nat) "WearHours$Week" "failing" "I" "WearHours") ∈ nwt := nwm (tb1 152 rfl) rfl
theorem kw_174 : (Jvm.Cond.laysFinal "WearHours$Week" "WearHours$Week" "gaps" "[LWearHours$Gap;") ∈ gt := gtn (tb1 153 rfl) rfl
theorem kw_176 : (Jvm.Cond.lays "WearHours$Week" "WearHours$Week" "gapCount" "I") ∈ gt := gtn (tb1 155 rfl) rfl
theorem kw_178 : (Jvm.Cond.laysFinal "WearHours$Week" "WearHours$Week" "persons" "[LWearHours$Person;") ∈ gt := gtn (tb1 157 rfl) rfl
theorem kw_180 : (Jvm.Cond.lays "WearHours$Week" "WearHours$Week" "personCount" "I") ∈ gt := gtn (tb1 159 rfl) rfl
theorem kw_182 : (Jvm.Cond.laysFinal "WearHours$Week" "WearHours$Week" "repairs" "[LWearHours$Repair;") ∈ gt := gtn (tb1 161 rfl) rfl
theorem kw_184 : (Jvm.Cond.lays "WearHours$Week" "WearHours$Week" "repairCount" "I") ∈ gt := gtn (tb1 163 rfl) rfl
theorem kw_186 : (Jvm.Cond.lays "WearHours$Week" "WearHours$Week" "rest" "I") ∈ gt := gtn (tb1 165 rfl) rfl
theorem kw_188 : (Jvm.Cond.lays "WearHours$Week" "WearHours$Week" "failing" "I") ∈ gt := gtn (tb1 167 rfl) rfl
theorem kw_191 : (Jvm.Cond.classLink "WearHours" (31 : Nat) "WearHours$Planner") ∈ gt := gtn (tb1 170 rfl) rfl
theorem kw_192 : (Jvm.Cond.instantiable "WearHours$Planner" (7 : Nat)) ∈ gt := gtn (tb1 171 rfl) rfl
theorem kw_193 : (Jvm.Cond.methodLink "WearHours" (33 : Nat) ({ cls := "WearHours$Planner", name := "<init>", desc := "(LWearHours$Week;)V" } : Jvm.MethodName)) ∈ gt := gtn (tb1 172 rfl) rfl
theorem kw_194 : (Jvm.Cond.instanceMethod ({ cls := "WearHours$Planner", name := "<init>", desc := "(LWearHours$Week;)V" } : Jvm.MethodName)) ∈ gt := gtn (tb1 173 rfl) rfl
theorem kw_195 : (Jvm.Cond.code ({ cls := "WearHours$Planner", name := "<init>", desc := "(LWearHours$Week;)V" } : Jvm.MethodName) prog_4_method_1_code (2 : Nat) (Option.none : Option Jvm.ClassFile.FieldType)) ∈ gt := gtn (tb1 174 rfl) rfl
theorem kw_196 : (Jvm.Cond.methodLink "WearHours$Planner" (3 : Nat) ({ cls := "java/lang/Object", name := "<init>", desc := "()V" } : Jvm.MethodName)) ∈ gt := gtn (tb1 175 rfl) rfl
theorem kw_197 : (Jvm.Cond.fieldLink "WearHours$Planner" (9 : Nat) "WearHours$Planner" "week" "LWearHours$Week;") ∈ gt := gtn (tb1 176 rfl) rfl
theorem kw_198 : (Jvm.Cond.fieldLink "WearHours$Planner" (17 : Nat) "WearHours$Planner" "personFree" "[I") ∈ gt := gtn (tb1 177 rfl) rfl
theorem kw_199 : (Jvm.Cond.fieldLink "WearHours$Planner" (21 : Nat) "WearHours$Planner" "thingFree" "[I") ∈ gt := gtn (tb1 178 rfl) rfl
theorem kw_200 : (Jvm.Cond.fieldLink "WearHours$Planner" (24 : Nat) "WearHours$Planner" "floors" "[I") ∈ gt := gtn (tb1 179 rfl) rfl
theorem kw_201 : (Jvm.Cond.fieldLink "WearHours$Planner" (27 : Nat) "WearHours$Planner" "hasPlan" "Z") ∈ gt := gtn (tb1 180 rfl) rfl
theorem nw_202 : (Jvm.Cond.fieldLinkNest "WearHours" (177 : Nat) "WearHours$Planner" "hasPlan" "Z" "WearHours") ∈ nwt := nwm (tb1 181 rfl) rfl
theorem kw_203 : (Jvm.Cond.fieldLink "WearHours$Planner" (42 : Nat) "WearHours$Planner" "planCost" "I") ∈ gt := gtn (tb1 182 rfl) rfl
theorem nw_204 : (Jvm.Cond.fieldLinkNest "WearHours" (206 : Nat) "WearHours$Planner" "planCost" "I" "WearHours") ∈ nwt := nwm (tb1 183 rfl) rfl
theorem kw_205 : (Jvm.Cond.fieldLink "WearHours$Planner" (46 : Nat) "WearHours$Planner" "placedCount" "I") ∈ gt := gtn (tb1 184 rfl) rfl
theorem nw_206 : (Jvm.Cond.fieldLinkNest "WearHours" (183 : Nat) "WearHours$Planner" "placedCount" "I" "WearHours") ∈ nwt := nwm (tb1 185 rfl) rfl
theorem kw_207 : (Jvm.Cond.laysFinal "WearHours$Planner" "WearHours$Planner" "week" "LWearHours$Week;") ∈ gt := gtn (tb1 186 rfl) rfl
theorem kw_209 : (Jvm.Cond.laysFinal "WearHours$Planner" "WearHours$Planner" "personFree" "[I") ∈ gt := gtn (tb1 188 rfl) rfl
theorem kw_211 : (Jvm.Cond.laysFinal "WearHours$Planner" "WearHours$Planner" "thingFree" "[I") ∈ gt := gtn (tb1 190 rfl) rfl
theorem kw_213 : (Jvm.Cond.laysFinal "WearHours$Planner" "WearHours$Planner" "floors" "[I") ∈ gt := gtn (tb1 192 rfl) rfl
theorem kw_215 : (Jvm.Cond.lays "WearHours$Planner" "WearHours$Planner" "hasPlan" "Z") ∈ gt := gtn (tb1 194 rfl) rfl
theorem kw_217 : (Jvm.Cond.lays "WearHours$Planner" "WearHours$Planner" "planCost" "I") ∈ gt := gtn (tb1 196 rfl) rfl
theorem kw_219 : (Jvm.Cond.lays "WearHours$Planner" "WearHours$Planner" "placedCount" "I") ∈ gt := gtn (tb1 198 rfl) rfl
theorem kw_222 : (Jvm.Cond.fieldLink "WearHours" (7 : Nat) "WearHours" "seedNow" "J") ∈ gt := gtn (tb1 201 rfl) rfl
theorem kw_223 : (Jvm.Cond.fieldLink "WearHours" (15 : Nat) "WearHours" "things" "[LWearHours$Thing;") ∈ gt := gtn (tb1 202 rfl) rfl
theorem kw_224 : (Jvm.Cond.fieldLink "WearHours" (52 : Nat) "WearHours" "thingCount" "I") ∈ gt := gtn (tb1 203 rfl) rfl
theorem kw_225 : (Jvm.Cond.fieldLink "WearHours" (20 : Nat) "WearHours" "spares" "[I") ∈ gt := gtn (tb1 204 rfl) rfl
theorem kw_226 : (Jvm.Cond.fieldLink "WearHours" (27 : Nat) "WearHours" "week" "LWearHours$Week;") ∈ gt := gtn (tb1 205 rfl) rfl
theorem kw_227 : (Jvm.Cond.fieldLink "WearHours" (36 : Nat) "WearHours" "planner" "LWearHours$Planner;") ∈ gt := gtn (tb1 206 rfl) rfl
theorem kw_228 : (Jvm.Cond.lays "WearHours" "WearHours" "seedNow" "J") ∈ gt := gtn (tb1 207 rfl) rfl
theorem kw_230 : (Jvm.Cond.laysFinal "WearHours" "WearHours" "things" "[LWearHours$Thing;") ∈ gt := gtn (tb1 209 rfl) rfl
theorem kw_232 : (Jvm.Cond.lays "WearHours" "WearHours" "thingCount" "I") ∈ gt := gtn (tb1 211 rfl) rfl
theorem kw_234 : (Jvm.Cond.laysFinal "WearHours" "WearHours" "spares" "[I") ∈ gt := gtn (tb1 213 rfl) rfl
theorem kw_236 : (Jvm.Cond.laysFinal "WearHours" "WearHours" "week" "LWearHours$Week;") ∈ gt := gtn (tb1 215 rfl) rfl
theorem kw_238 : (Jvm.Cond.laysFinal "WearHours" "WearHours" "planner" "LWearHours$Planner;") ∈ gt := gtn (tb1 217 rfl) rfl
theorem kw_241 : (Jvm.Cond.methodLink "WearHoursLaw" (71 : Nat) ({ cls := "WearHours", name := "seed", desc := "(J)V" } : Jvm.MethodName)) ∈ gt := gtn (tb1 220 rfl) rfl
theorem kw_242 : (Jvm.Cond.instanceMethod ({ cls := "WearHours", name := "seed", desc := "(J)V" } : Jvm.MethodName)) ∈ gt := gtn (tb1 221 rfl) rfl
theorem kw_243 : (Jvm.Cond.selects "WearHours" ({ cls := "WearHours", name := "seed", desc := "(J)V" } : Jvm.MethodName) ({ cls := "WearHours", name := "seed", desc := "(J)V" } : Jvm.MethodName)) ∈ gt := gtn (tb1 222 rfl) rfl
theorem kw_244 : (Jvm.Cond.code ({ cls := "WearHours", name := "seed", desc := "(J)V" } : Jvm.MethodName) prog_1_method_2_code (3 : Nat) (Option.none : Option Jvm.ClassFile.FieldType)) ∈ gt := gtn (tb1 223 rfl) rfl
theorem kw_245 : (Jvm.Cond.methodLink "WearHoursLaw" (116 : Nat) ({ cls := "WearHours", name := "plan", desc := "()I" } : Jvm.MethodName)) ∈ gt := gtn (tb1 224 rfl) rfl
theorem kw_246 : (Jvm.Cond.instanceMethod ({ cls := "WearHours", name := "plan", desc := "()I" } : Jvm.MethodName)) ∈ gt := gtn (tb1 225 rfl) rfl
theorem kw_247 : (Jvm.Cond.selects "WearHours" ({ cls := "WearHours", name := "plan", desc := "()I" } : Jvm.MethodName) ({ cls := "WearHours", name := "plan", desc := "()I" } : Jvm.MethodName)) ∈ gt := gtn (tb1 226 rfl) rfl
theorem kw_248 : (Jvm.Cond.code ({ cls := "WearHours", name := "plan", desc := "()I" } : Jvm.MethodName) prog_1_method_13_code (1 : Nat) (Option.some Jvm.ClassFile.FieldType.int)) ∈ gt := gtn (tb1 227 rfl) rfl
theorem kw_249 : (Jvm.Cond.methodLink "WearHours" (180 : Nat) ({ cls := "WearHours$Planner", name := "makeBest", desc := "()V" } : Jvm.MethodName)) ∈ gt := gtn (tb1 228 rfl) rfl
theorem kw_250 : (Jvm.Cond.instanceMethod ({ cls := "WearHours$Planner", name := "makeBest", desc := "()V" } : Jvm.MethodName)) ∈ gt := gtn (tb1 229 rfl) rfl
theorem kw_251 : (Jvm.Cond.selects "WearHours$Planner" ({ cls := "WearHours$Planner", name := "makeBest", desc := "()V" } : Jvm.MethodName) ({ cls := "WearHours$Planner", name := "makeBest", desc := "()V" } : Jvm.MethodName)) ∈ gt := gtn (tb1 230 rfl) rfl
theorem kw_252 : (Jvm.Cond.code ({ cls := "WearHours$Planner", name := "makeBest", desc := "()V" } : Jvm.MethodName) prog_4_method_3_code (3 : Nat) (Option.none : Option Jvm.ClassFile.FieldType)) ∈ gt := gtn (tb1 231 rfl) rfl
theorem kw_253 : (Jvm.Cond.methodLink "WearHours$Planner" (31 : Nat) ({ cls := "WearHours$Planner", name := "freeAll", desc := "()V" } : Jvm.MethodName)) ∈ gt := gtn (tb1 232 rfl) rfl
theorem kw_255 : (Jvm.Cond.instanceMethod ({ cls := "WearHours$Planner", name := "freeAll", desc := "()V" } : Jvm.MethodName)) ∈ gt := gtn (tb1 234 rfl) rfl
theorem kw_256 : (Jvm.Cond.code ({ cls := "WearHours$Planner", name := "freeAll", desc := "()V" } : Jvm.MethodName) prog_4_method_4_code (2 : Nat) (Option.none : Option Jvm.ClassFile.FieldType)) ∈ gt := gtn (tb1 235 rfl) rfl
theorem kw_257 : (Jvm.Cond.methodLink "WearHours$Planner" (34 : Nat) ({ cls := "WearHours$Planner", name := "sumFloors", desc := "()V" } : Jvm.MethodName)) ∈ gt := gtn (tb1 236 rfl) rfl
theorem kw_259 : (Jvm.Cond.instanceMethod ({ cls := "WearHours$Planner", name := "sumFloors", desc := "()V" } : Jvm.MethodName)) ∈ gt := gtn (tb1 238 rfl) rfl
theorem kw_260 : (Jvm.Cond.code ({ cls := "WearHours$Planner", name := "sumFloors", desc := "()V" } : Jvm.MethodName) prog_4_method_5_code (6 : Nat) (Option.none : Option Jvm.ClassFile.FieldType)) ∈ gt := gtn (tb1 239 rfl) rfl
theorem kw_261 : (Jvm.Cond.methodLink "WearHours$Planner" (65 : Nat) ({ cls := "WearHours$Week", name := "costUnplaced", desc := "(LWearHours$Repair;)I" } : Jvm.MethodName)) ∈ gt := gtn (tb2 0 rfl) rfl
theorem kw_262 : (Jvm.Cond.instanceMethod ({ cls := "WearHours$Week", name := "costUnplaced", desc := "(LWearHours$Repair;)I" } : Jvm.MethodName)) ∈ gt := gtn (tb2 1 rfl) rfl
theorem kw_263 : (Jvm.Cond.selects "WearHours$Week" ({ cls := "WearHours$Week", name := "costUnplaced", desc := "(LWearHours$Repair;)I" } : Jvm.MethodName) ({ cls := "WearHours$Week", name := "costUnplaced", desc := "(LWearHours$Repair;)I" } : Jvm.MethodName)) ∈ gt := gtn (tb2 2 rfl) rfl
theorem kw_264 : (Jvm.Cond.code ({ cls := "WearHours$Week", name := "costUnplaced", desc := "(LWearHours$Repair;)I" } : Jvm.MethodName) prog_7_method_5_code (2 : Nat) (Option.some Jvm.ClassFile.FieldType.int)) ∈ gt := gtn (tb2 3 rfl) rfl
theorem kw_265 : (Jvm.Cond.methodLink "WearHours$Planner" (72 : Nat) ({ cls := "WearHours$Planner", name := "firstBeginning", desc := "(LWearHours$Repair;I)I" } : Jvm.MethodName)) ∈ gt := gtn (tb2 4 rfl) rfl
theorem kw_267 : (Jvm.Cond.instanceMethod ({ cls := "WearHours$Planner", name := "firstBeginning", desc := "(LWearHours$Repair;I)I" } : Jvm.MethodName)) ∈ gt := gtn (tb2 6 rfl) rfl
theorem kw_268 : (Jvm.Cond.code ({ cls := "WearHours$Planner", name := "firstBeginning", desc := "(LWearHours$Repair;I)I" } : Jvm.MethodName) prog_4_method_10_code (6 : Nat) (Option.some Jvm.ClassFile.FieldType.int)) ∈ gt := gtn (tb2 7 rfl) rfl
theorem kw_269 : (Jvm.Cond.methodLink "WearHours$Planner" (90 : Nat) ({ cls := "WearHours$Planner", name := "beginning", desc := "(LWearHours$Repair;II)I" } : Jvm.MethodName)) ∈ gt := gtn (tb2 8 rfl) rfl
theorem kw_271 : (Jvm.Cond.instanceMethod ({ cls := "WearHours$Planner", name := "beginning", desc := "(LWearHours$Repair;II)I" } : Jvm.MethodName)) ∈ gt := gtn (tb2 10 rfl) rfl
theorem kw_272 : (Jvm.Cond.code ({ cls := "WearHours$Planner", name := "beginning", desc := "(LWearHours$Repair;II)I" } : Jvm.MethodName) prog_4_method_11_code (9 : Nat) (Option.some Jvm.ClassFile.FieldType.int)) ∈ gt := gtn (tb2 11 rfl) rfl
theorem kw_273 : (Jvm.Cond.methodLink "WearHours$Planner" (135 : Nat) ({ cls := "java/lang/Math", name := "max", desc := "(II)I" } : Jvm.MethodName)) ∈ gt := gtn (tb2 12 rfl) rfl
theorem kw_274 : (Jvm.Cond.static ({ cls := "java/lang/Math", name := "max", desc := "(II)I" } : Jvm.MethodName)) ∈ gt := gtn (tb2 13 rfl) rfl
theorem kw_275 : (Jvm.Cond.code ({ cls := "java/lang/Math", name := "max", desc := "(II)I" } : Jvm.MethodName) prog_14_method_65_code (2 : Nat) (Option.some Jvm.ClassFile.FieldType.int)) ∈ gt := gtn (tb2 14 rfl) rfl
theorem kw_276 : (Jvm.Cond.methodLink "WearHours$Planner" (79 : Nat) ({ cls := "java/lang/Math", name := "min", desc := "(II)I" } : Jvm.MethodName)) ∈ gt := gtn (tb2 15 rfl) rfl
theorem kw_277 : (Jvm.Cond.static ({ cls := "java/lang/Math", name := "min", desc := "(II)I" } : Jvm.MethodName)) ∈ gt := gtn (tb2 16 rfl) rfl
theorem kw_278 : (Jvm.Cond.code ({ cls := "java/lang/Math", name := "min", desc := "(II)I" } : Jvm.MethodName) prog_14_method_69_code (2 : Nat) (Option.some Jvm.ClassFile.FieldType.int)) ∈ gt := gtn (tb2 17 rfl) rfl
theorem kw_279 : (Jvm.Cond.constant "WearHours$Planner" (37 : Nat) (1000000000 : Int32)) ∈ gt := gtn (tb2 18 rfl) rfl
theorem kw_280 : (Jvm.Cond.methodLink "WearHours$Planner" (38 : Nat) ({ cls := "WearHours$Planner", name := "leastCost", desc := "(II)I" } : Jvm.MethodName)) ∈ gt := gtn (tb2 19 rfl) rfl
theorem kw_282 : (Jvm.Cond.instanceMethod ({ cls := "WearHours$Planner", name := "leastCost", desc := "(II)I" } : Jvm.MethodName)) ∈ gt := gtn (tb2 21 rfl) rfl
theorem kw_283 : (Jvm.Cond.code ({ cls := "WearHours$Planner", name := "leastCost", desc := "(II)I" } : Jvm.MethodName) prog_4_method_7_code (7 : Nat) (Option.some Jvm.ClassFile.FieldType.int)) ∈ gt := gtn (tb2 22 rfl) rfl
theorem kw_284 : (Jvm.Cond.methodLink "WearHours$Planner" (94 : Nat) ({ cls := "WearHours$Planner", name := "costBy", desc := "(IIII)I" } : Jvm.MethodName)) ∈ gt := gtn (tb2 23 rfl) rfl
theorem kw_286 : (Jvm.Cond.instanceMethod ({ cls := "WearHours$Planner", name := "costBy", desc := "(IIII)I" } : Jvm.MethodName)) ∈ gt := gtn (tb2 25 rfl) rfl
theorem kw_287 : (Jvm.Cond.code ({ cls := "WearHours$Planner", name := "costBy", desc := "(IIII)I" } : Jvm.MethodName) prog_4_method_8_code (10 : Nat) (Option.some Jvm.ClassFile.FieldType.int)) ∈ gt := gtn (tb2 26 rfl) rfl
theorem kw_288 : (Jvm.Cond.methodLink "WearHours$Planner" (98 : Nat) ({ cls := "WearHours$Planner", name := "occupy", desc := "(LWearHours$Repair;II)V" } : Jvm.MethodName)) ∈ gt := gtn (tb2 27 rfl) rfl
theorem kw_290 : (Jvm.Cond.instanceMethod ({ cls := "WearHours$Planner", name := "occupy", desc := "(LWearHours$Repair;II)V" } : Jvm.MethodName)) ∈ gt := gtn (tb2 29 rfl) rfl
theorem kw_291 : (Jvm.Cond.code ({ cls := "WearHours$Planner", name := "occupy", desc := "(LWearHours$Repair;II)V" } : Jvm.MethodName) prog_4_method_9_code (5 : Nat) (Option.none : Option Jvm.ClassFile.FieldType)) ∈ gt := gtn (tb2 30 rfl) rfl
theorem kw_292 : (Jvm.Cond.methodLink "WearHours$Planner" (52 : Nat) ({ cls := "WearHours$Planner", name := "settle", desc := "(II)I" } : Jvm.MethodName)) ∈ gt := gtn (tb2 31 rfl) rfl
theorem kw_294 : (Jvm.Cond.instanceMethod ({ cls := "WearHours$Planner", name := "settle", desc := "(II)I" } : Jvm.MethodName)) ∈ gt := gtn (tb2 33 rfl) rfl
theorem kw_295 : (Jvm.Cond.code ({ cls := "WearHours$Planner", name := "settle", desc := "(II)I" } : Jvm.MethodName) prog_4_method_6_code (7 : Nat) (Option.some Jvm.ClassFile.FieldType.int)) ∈ gt := gtn (tb2 34 rfl) rfl
theorem kw_296 : (Jvm.Cond.methodLink "WearHours$Planner" (84 : Nat) ({ cls := "WearHours$Repair", name := "unplace", desc := "()V" } : Jvm.MethodName)) ∈ gt := gtn (tb2 35 rfl) rfl
theorem kw_297 : (Jvm.Cond.instanceMethod ({ cls := "WearHours$Repair", name := "unplace", desc := "()V" } : Jvm.MethodName)) ∈ gt := gtn (tb2 36 rfl) rfl
theorem kw_298 : (Jvm.Cond.selects "WearHours$Repair" ({ cls := "WearHours$Repair", name := "unplace", desc := "()V" } : Jvm.MethodName) ({ cls := "WearHours$Repair", name := "unplace", desc := "()V" } : Jvm.MethodName)) ∈ gt := gtn (tb2 37 rfl) rfl
theorem kw_299 : (Jvm.Cond.code ({ cls := "WearHours$Repair", name := "unplace", desc := "()V" } : Jvm.MethodName) prog_5_method_4_code (1 : Nat) (Option.none : Option Jvm.ClassFile.FieldType)) ∈ gt := gtn (tb2 38 rfl) rfl
theorem kw_300 : (Jvm.Cond.methodLink "WearHours$Repair" (19 : Nat) ({ cls := "WearHours$Repair", name := "place", desc := "(III)V" } : Jvm.MethodName)) ∈ gt := gtn (tb2 39 rfl) rfl
theorem kw_301 : (Jvm.Cond.instanceMethod ({ cls := "WearHours$Repair", name := "place", desc := "(III)V" } : Jvm.MethodName)) ∈ gt := gtn (tb2 40 rfl) rfl
theorem kw_302 : (Jvm.Cond.selects "WearHours$Repair" ({ cls := "WearHours$Repair", name := "place", desc := "(III)V" } : Jvm.MethodName) ({ cls := "WearHours$Repair", name := "place", desc := "(III)V" } : Jvm.MethodName)) ∈ gt := gtn (tb2 41 rfl) rfl
theorem kw_303 : (Jvm.Cond.code ({ cls := "WearHours$Repair", name := "place", desc := "(III)V" } : Jvm.MethodName) prog_5_method_3_code (4 : Nat) (Option.none : Option Jvm.ClassFile.FieldType)) ∈ gt := gtn (tb2 42 rfl) rfl
theorem kw_304 : (Jvm.Cond.methodLink "WearHours$Planner" (102 : Nat) ({ cls := "WearHours$Repair", name := "place", desc := "(III)V" } : Jvm.MethodName)) ∈ gt := gtn (tb2 43 rfl) rfl
theorem kw_305 : (Jvm.Cond.methodLink "WearHours$Planner" (59 : Nat) ({ cls := "WearHours$Repair", name := "isPlaced", desc := "()Z" } : Jvm.MethodName)) ∈ gt := gtn (tb2 44 rfl) rfl
theorem kw_306 : (Jvm.Cond.instanceMethod ({ cls := "WearHours$Repair", name := "isPlaced", desc := "()Z" } : Jvm.MethodName)) ∈ gt := gtn (tb2 45 rfl) rfl
theorem kw_307 : (Jvm.Cond.selects "WearHours$Repair" ({ cls := "WearHours$Repair", name := "isPlaced", desc := "()Z" } : Jvm.MethodName) ({ cls := "WearHours$Repair", name := "isPlaced", desc := "()Z" } : Jvm.MethodName)) ∈ gt := gtn (tb2 46 rfl) rfl
theorem kw_308 : (Jvm.Cond.code ({ cls := "WearHours$Repair", name := "isPlaced", desc := "()Z" } : Jvm.MethodName) prog_5_method_2_code (1 : Nat) (Option.some Jvm.ClassFile.FieldType.boolean)) ∈ gt := gtn (tb2 47 rfl) rfl
theorem kw_309 : (Jvm.Cond.methodLink "WearHoursLaw" (76 : Nat) ({ cls := "WearHoursLaw", name := "thing", desc := "(LWearHours;II[J)I" } : Jvm.MethodName)) ∈ gt := gtn (tb2 48 rfl) rfl
theorem kw_310 : (Jvm.Cond.static ({ cls := "WearHoursLaw", name := "thing", desc := "(LWearHours;II[J)I" } : Jvm.MethodName)) ∈ gt := gtn (tb2 49 rfl) rfl
theorem kw_311 : (Jvm.Cond.codeWith ({ cls := "WearHoursLaw", name := "thing", desc := "(LWearHours;II[J)I" } : Jvm.MethodName) method_3_code (5 : Nat) (Option.some Jvm.ClassFile.FieldType.int) [((0 : Nat), (10 : Nat), (13 : Nat), (13 : Nat)), ((0 : Nat), (10 : Nat), (17 : Nat), (15 : Nat))]) ∈ gt := gtn (tb2 50 rfl) rfl
theorem kw_312 : (Jvm.Cond.classLink "WearHoursLaw" (13 : Nat) "java/lang/IllegalArgumentException") ∈ gt := gtn (tb2 51 rfl) rfl
theorem kw_313 : (Jvm.Cond.classLink "WearHoursLaw" (15 : Nat) "java/lang/UnsupportedOperationException") ∈ gt := gtn (tb2 52 rfl) rfl
theorem kw_314 : (Jvm.Cond.methodLink "WearHoursLaw" (7 : Nat) ({ cls := "WearHours", name := "thing", desc := "(II)I" } : Jvm.MethodName)) ∈ gt := gtn (tb2 53 rfl) rfl
theorem kw_315 : (Jvm.Cond.instanceMethod ({ cls := "WearHours", name := "thing", desc := "(II)I" } : Jvm.MethodName)) ∈ gt := gtn (tb2 54 rfl) rfl
theorem kw_316 : (Jvm.Cond.selects "WearHours" ({ cls := "WearHours", name := "thing", desc := "(II)I" } : Jvm.MethodName) ({ cls := "WearHours", name := "thing", desc := "(II)I" } : Jvm.MethodName)) ∈ gt := gtn (tb2 55 rfl) rfl
theorem kw_317 : (Jvm.Cond.code ({ cls := "WearHours", name := "thing", desc := "(II)I" } : Jvm.MethodName) prog_1_method_3_code (3 : Nat) (Option.some Jvm.ClassFile.FieldType.int)) ∈ gt := gtn (tb2 56 rfl) rfl
theorem kw_318 : (Jvm.Cond.constant "WearHours" (40 : Nat) (1000000 : Int32)) ∈ gt := gtn (tb2 57 rfl) rfl
theorem kw_319 : (Jvm.Cond.methodLink "WearHours" (41 : Nat) ({ cls := "WearHours", name := "isWithin", desc := "(III)Z" } : Jvm.MethodName)) ∈ gt := gtn (tb2 58 rfl) rfl
theorem kw_320 : (Jvm.Cond.static ({ cls := "WearHours", name := "isWithin", desc := "(III)Z" } : Jvm.MethodName)) ∈ gt := gtn (tb2 59 rfl) rfl
theorem kw_321 : (Jvm.Cond.code ({ cls := "WearHours", name := "isWithin", desc := "(III)Z" } : Jvm.MethodName) prog_1_method_18_code (3 : Nat) (Option.some Jvm.ClassFile.FieldType.boolean)) ∈ gt := gtn (tb2 60 rfl) rfl
theorem kw_322 : (Jvm.Cond.classLink "WearHours" (45 : Nat) "java/lang/IllegalArgumentException") ∈ gt := gtn (tb2 61 rfl) rfl
theorem kw_323 : (Jvm.Cond.instantiable "java/lang/IllegalArgumentException" (6 : Nat)) ∈ gt := gtn (tb2 62 rfl) rfl
theorem nw_324 : (Jvm.Cond.castable "java/lang/IllegalArgumentException" "java/lang/IllegalArgumentException") ∈ nwt := nwm (tb2 63 rfl) rfl
theorem nw_325 : (Jvm.Cond.declares ({ cls := "java/lang/RuntimeException", name := "<init>", desc := "()V" } : Jvm.MethodName)) ∈ nwt := nwm (tb2 64 rfl) rfl
theorem nw_326 : (Jvm.Cond.declares ({ cls := "java/lang/RuntimeException", name := "<init>", desc := "(Ljava/lang/String;)V" } : Jvm.MethodName)) ∈ nwt := nwm (tb2 65 rfl) rfl
theorem nw_327 : (Jvm.Cond.declares ({ cls := "java/lang/Exception", name := "<init>", desc := "()V" } : Jvm.MethodName)) ∈ nwt := nwm (tb2 66 rfl) rfl
theorem nw_328 : (Jvm.Cond.declares ({ cls := "java/lang/Exception", name := "<init>", desc := "(Ljava/lang/String;)V" } : Jvm.MethodName)) ∈ nwt := nwm (tb2 67 rfl) rfl
theorem nw_329 : (Jvm.Cond.declares ({ cls := "java/lang/Throwable", name := "<init>", desc := "()V" } : Jvm.MethodName)) ∈ nwt := nwm (tb2 68 rfl) rfl
theorem nw_330 : (Jvm.Cond.declares ({ cls := "java/lang/Throwable", name := "<init>", desc := "(Ljava/lang/String;)V" } : Jvm.MethodName)) ∈ nwt := nwm (tb2 69 rfl) rfl
theorem kw_331 : (Jvm.Cond.selects "java/lang/IllegalArgumentException" ({ cls := "java/lang/Throwable", name := "fillInStackTrace", desc := "(I)Ljava/lang/Throwable;" } : Jvm.MethodName) ({ cls := "java/lang/Throwable", name := "fillInStackTrace", desc := "(I)Ljava/lang/Throwable;" } : Jvm.MethodName)) ∈ gt := gtn (tb2 70 rfl) rfl
theorem kw_332 : (Jvm.Cond.selects "java/lang/IllegalArgumentException" ({ cls := "java/lang/Throwable", name := "fillInStackTrace", desc := "()Ljava/lang/Throwable;" } : Jvm.MethodName) ({ cls := "java/lang/Throwable", name := "fillInStackTrace", desc := "()Ljava/lang/Throwable;" } : Jvm.MethodName)) ∈ gt := gtn (tb2 71 rfl) rfl
theorem kw_333 : (Jvm.Cond.lays "java/lang/IllegalArgumentException" "java/lang/Throwable" "cause" "Ljava/lang/Throwable;") ∈ gt := gtn (tb2 72 rfl) rfl
theorem kw_334 : (Jvm.Cond.lays "java/lang/Throwable" "java/lang/Throwable" "cause" "Ljava/lang/Throwable;") ∈ gt := gtn (tb2 73 rfl) rfl
theorem kw_335 : (Jvm.Cond.lays "java/lang/IllegalArgumentException" "java/lang/Throwable" "stackTrace" "[Ljava/lang/StackTraceElement;") ∈ gt := gtn (tb2 74 rfl) rfl
theorem kw_336 : (Jvm.Cond.lays "java/lang/Throwable" "java/lang/Throwable" "stackTrace" "[Ljava/lang/StackTraceElement;") ∈ gt := gtn (tb2 75 rfl) rfl
theorem kw_337 : (Jvm.Cond.lays "java/lang/IllegalArgumentException" "java/lang/Throwable" "suppressedExceptions" "Ljava/util/List;") ∈ gt := gtn (tb2 76 rfl) rfl
theorem kw_338 : (Jvm.Cond.lays "java/lang/Throwable" "java/lang/Throwable" "suppressedExceptions" "Ljava/util/List;") ∈ gt := gtn (tb2 77 rfl) rfl
theorem kw_339 : (Jvm.Cond.lays "java/lang/IllegalArgumentException" "java/lang/Throwable" "detailMessage" "Ljava/lang/String;") ∈ gt := gtn (tb2 78 rfl) rfl
theorem kw_340 : (Jvm.Cond.lays "java/lang/Throwable" "java/lang/Throwable" "detailMessage" "Ljava/lang/String;") ∈ gt := gtn (tb2 79 rfl) rfl
theorem kw_341 : (Jvm.Cond.lays "java/lang/IllegalArgumentException" "java/lang/Throwable" "backtrace" "Ljava/lang/Object;") ∈ gt := gtn (tb2 80 rfl) rfl
theorem kw_342 : (Jvm.Cond.lays "java/lang/Throwable" "java/lang/Throwable" "backtrace" "Ljava/lang/Object;") ∈ gt := gtn (tb2 81 rfl) rfl
theorem kw_343 : (Jvm.Cond.fieldLink "java/lang/Throwable" (198 : Nat) "java/lang/Throwable" "backtrace" "Ljava/lang/Object;") ∈ gt := gtn (tb2 82 rfl) rfl
theorem kw_345 : (Jvm.Cond.instanceMethod ({ cls := "java/lang/Throwable", name := "<init>", desc := "()V" } : Jvm.MethodName)) ∈ gt := gtn (tb2 84 rfl) rfl
theorem kw_346 : (Jvm.Cond.code ({ cls := "java/lang/Throwable", name := "<init>", desc := "()V" } : Jvm.MethodName) prog_17_method_1_code (1 : Nat) (Option.none : Option Jvm.ClassFile.FieldType)) ∈ gt := gtn (tb2 85 rfl) rfl
theorem kw_347 : (Jvm.Cond.methodLink "java/lang/Throwable" (1 : Nat) ({ cls := "java/lang/Object", name := "<init>", desc := "()V" } : Jvm.MethodName)) ∈ gt := gtn (tb2 86 rfl) rfl
theorem kw_348 : (Jvm.Cond.fieldLink "java/lang/Throwable" (13 : Nat) "java/lang/Throwable" "UNASSIGNED_STACK" "[Ljava/lang/StackTraceElement;") ∈ gt := gtn (tb2 87 rfl) rfl
theorem kw_350 : (Jvm.Cond.fieldLink "java/lang/Throwable" (20 : Nat) "java/lang/Throwable" "SUPPRESSED_SENTINEL" "Ljava/util/List;") ∈ gt := gtn (tb2 89 rfl) rfl
theorem kw_352 : (Jvm.Cond.methodLink "java/lang/Throwable" (27 : Nat) ({ cls := "java/lang/Throwable", name := "fillInStackTrace", desc := "()Ljava/lang/Throwable;" } : Jvm.MethodName)) ∈ gt := gtn (tb2 91 rfl) rfl
theorem kw_353 : (Jvm.Cond.instanceMethod ({ cls := "java/lang/Throwable", name := "fillInStackTrace", desc := "()Ljava/lang/Throwable;" } : Jvm.MethodName)) ∈ gt := gtn (tb2 92 rfl) rfl
theorem kw_355 : (Jvm.Cond.selects "java/lang/IllegalStateException" ({ cls := "java/lang/Throwable", name := "fillInStackTrace", desc := "()Ljava/lang/Throwable;" } : Jvm.MethodName) ({ cls := "java/lang/Throwable", name := "fillInStackTrace", desc := "()Ljava/lang/Throwable;" } : Jvm.MethodName)) ∈ gt := gtn (tb2 94 rfl) rfl
theorem kw_356 : (Jvm.Cond.selects "java/lang/IndexOutOfBoundsException" ({ cls := "java/lang/Throwable", name := "fillInStackTrace", desc := "()Ljava/lang/Throwable;" } : Jvm.MethodName) ({ cls := "java/lang/Throwable", name := "fillInStackTrace", desc := "()Ljava/lang/Throwable;" } : Jvm.MethodName)) ∈ gt := gtn (tb2 95 rfl) rfl
theorem kw_357 : (Jvm.Cond.selects "java/lang/UnsupportedOperationException" ({ cls := "java/lang/Throwable", name := "fillInStackTrace", desc := "()Ljava/lang/Throwable;" } : Jvm.MethodName) ({ cls := "java/lang/Throwable", name := "fillInStackTrace", desc := "()Ljava/lang/Throwable;" } : Jvm.MethodName)) ∈ gt := gtn (tb2 96 rfl) rfl
theorem kw_359 : (Jvm.Cond.methodLink "java/lang/Throwable" (202 : Nat) ({ cls := "java/lang/Throwable", name := "fillInStackTrace", desc := "(I)Ljava/lang/Throwable;" } : Jvm.MethodName)) ∈ gt := gtn (tb2 98 rfl) rfl
theorem kw_361 : (Jvm.Cond.instanceMethod ({ cls := "java/lang/Throwable", name := "fillInStackTrace", desc := "(I)Ljava/lang/Throwable;" } : Jvm.MethodName)) ∈ gt := gtn (tb2 100 rfl) rfl
theorem kw_362 : (Jvm.Cond.instantiable "java/lang/Throwable" (6 : Nat)) ∈ gt := gtn (tb2 101 rfl) rfl
theorem kw_365 : (Jvm.Cond.methodLink "WearHours" (49 : Nat) ({ cls := "java/lang/IllegalArgumentException", name := "<init>", desc := "(Ljava/lang/String;)V" } : Jvm.MethodName)) ∈ gt := gtn (tb2 104 rfl) rfl
theorem kw_366 : (Jvm.Cond.instanceMethod ({ cls := "java/lang/IllegalArgumentException", name := "<init>", desc := "(Ljava/lang/String;)V" } : Jvm.MethodName)) ∈ gt := gtn (tb2 105 rfl) rfl
theorem kw_367 : (Jvm.Cond.code ({ cls := "java/lang/IllegalArgumentException", name := "<init>", desc := "(Ljava/lang/String;)V" } : Jvm.MethodName) prog_11_method_2_code (2 : Nat) (Option.none : Option Jvm.ClassFile.FieldType)) ∈ gt := gtn (tb2 106 rfl) rfl
theorem kw_368 : (Jvm.Cond.methodLink "java/lang/IllegalArgumentException" (7 : Nat) ({ cls := "java/lang/RuntimeException", name := "<init>", desc := "(Ljava/lang/String;)V" } : Jvm.MethodName)) ∈ gt := gtn (tb2 107 rfl) rfl
theorem kw_369 : (Jvm.Cond.instanceMethod ({ cls := "java/lang/RuntimeException", name := "<init>", desc := "(Ljava/lang/String;)V" } : Jvm.MethodName)) ∈ gt := gtn (tb2 108 rfl) rfl
theorem kw_370 : (Jvm.Cond.code ({ cls := "java/lang/RuntimeException", name := "<init>", desc := "(Ljava/lang/String;)V" } : Jvm.MethodName) prog_15_method_2_code (2 : Nat) (Option.none : Option Jvm.ClassFile.FieldType)) ∈ gt := gtn (tb2 109 rfl) rfl
theorem kw_371 : (Jvm.Cond.methodLink "java/lang/RuntimeException" (7 : Nat) ({ cls := "java/lang/Exception", name := "<init>", desc := "(Ljava/lang/String;)V" } : Jvm.MethodName)) ∈ gt := gtn (tb2 110 rfl) rfl
theorem kw_372 : (Jvm.Cond.instanceMethod ({ cls := "java/lang/Exception", name := "<init>", desc := "(Ljava/lang/String;)V" } : Jvm.MethodName)) ∈ gt := gtn (tb2 111 rfl) rfl
theorem kw_373 : (Jvm.Cond.code ({ cls := "java/lang/Exception", name := "<init>", desc := "(Ljava/lang/String;)V" } : Jvm.MethodName) prog_10_method_2_code (2 : Nat) (Option.none : Option Jvm.ClassFile.FieldType)) ∈ gt := gtn (tb2 112 rfl) rfl
theorem kw_374 : (Jvm.Cond.methodLink "java/lang/Exception" (7 : Nat) ({ cls := "java/lang/Throwable", name := "<init>", desc := "(Ljava/lang/String;)V" } : Jvm.MethodName)) ∈ gt := gtn (tb2 113 rfl) rfl
theorem kw_375 : (Jvm.Cond.instanceMethod ({ cls := "java/lang/Throwable", name := "<init>", desc := "(Ljava/lang/String;)V" } : Jvm.MethodName)) ∈ gt := gtn (tb2 114 rfl) rfl
theorem kw_376 : (Jvm.Cond.code ({ cls := "java/lang/Throwable", name := "<init>", desc := "(Ljava/lang/String;)V" } : Jvm.MethodName) prog_17_method_2_code (2 : Nat) (Option.none : Option Jvm.ClassFile.FieldType)) ∈ gt := gtn (tb2 115 rfl) rfl
theorem kw_377 : (Jvm.Cond.fieldLink "java/lang/Throwable" (198 : Nat) "java/lang/Throwable" "backtrace" "Ljava/lang/Object;") ∈ gt := gtn (tb2 116 rfl) rfl
theorem kw_378 : (Jvm.Cond.fieldLink "java/lang/Throwable" (31 : Nat) "java/lang/Throwable" "detailMessage" "Ljava/lang/String;") ∈ gt := gtn (tb2 117 rfl) rfl
theorem kw_379 : (Jvm.Cond.fieldLink "java/lang/Throwable" (7 : Nat) "java/lang/Throwable" "cause" "Ljava/lang/Throwable;") ∈ gt := gtn (tb2 118 rfl) rfl
theorem kw_380 : (Jvm.Cond.fieldLink "java/lang/Throwable" (17 : Nat) "java/lang/Throwable" "stackTrace" "[Ljava/lang/StackTraceElement;") ∈ gt := gtn (tb2 119 rfl) rfl
theorem kw_381 : (Jvm.Cond.fieldLink "java/lang/Throwable" (24 : Nat) "java/lang/Throwable" "suppressedExceptions" "Ljava/util/List;") ∈ gt := gtn (tb2 120 rfl) rfl
theorem kw_386 : (Jvm.Cond.lays "java/lang/IllegalArgumentException" "java/lang/Throwable" "depth" "I") ∈ gt := gtn (tb2 125 rfl) rfl
theorem kw_390 : (Jvm.Cond.arrayClass Jvm.ClassFile.FieldType.byte) ∈ gt := gtn (tb2 129 rfl) rfl
theorem kw_391 : (Jvm.Cond.classLink "WearHours" (56 : Nat) "java/lang/UnsupportedOperationException") ∈ gt := gtn (tb2 130 rfl) rfl
theorem kw_392 : (Jvm.Cond.instantiable "java/lang/UnsupportedOperationException" (6 : Nat)) ∈ gt := gtn (tb2 131 rfl) rfl
theorem nw_393 : (Jvm.Cond.castable "java/lang/UnsupportedOperationException" "java/lang/UnsupportedOperationException") ∈ nwt := nwm (tb2 132 rfl) rfl
theorem kw_394 : (Jvm.Cond.selects "java/lang/UnsupportedOperationException" ({ cls := "java/lang/Throwable", name := "fillInStackTrace", desc := "(I)Ljava/lang/Throwable;" } : Jvm.MethodName) ({ cls := "java/lang/Throwable", name := "fillInStackTrace", desc := "(I)Ljava/lang/Throwable;" } : Jvm.MethodName)) ∈ gt := gtn (tb2 133 rfl) rfl
theorem kw_395 : (Jvm.Cond.lays "java/lang/UnsupportedOperationException" "java/lang/Throwable" "cause" "Ljava/lang/Throwable;") ∈ gt := gtn (tb2 134 rfl) rfl
theorem kw_396 : (Jvm.Cond.lays "java/lang/UnsupportedOperationException" "java/lang/Throwable" "stackTrace" "[Ljava/lang/StackTraceElement;") ∈ gt := gtn (tb2 135 rfl) rfl
theorem kw_397 : (Jvm.Cond.lays "java/lang/UnsupportedOperationException" "java/lang/Throwable" "suppressedExceptions" "Ljava/util/List;") ∈ gt := gtn (tb2 136 rfl) rfl
theorem kw_398 : (Jvm.Cond.lays "java/lang/UnsupportedOperationException" "java/lang/Throwable" "detailMessage" "Ljava/lang/String;") ∈ gt := gtn (tb2 137 rfl) rfl
theorem kw_399 : (Jvm.Cond.lays "java/lang/UnsupportedOperationException" "java/lang/Throwable" "backtrace" "Ljava/lang/Object;") ∈ gt := gtn (tb2 138 rfl) rfl
theorem kw_401 : (Jvm.Cond.methodLink "WearHours" (60 : Nat) ({ cls := "java/lang/UnsupportedOperationException", name := "<init>", desc := "(Ljava/lang/String;)V" } : Jvm.MethodName)) ∈ gt := gtn (tb2 140 rfl) rfl
theorem kw_402 : (Jvm.Cond.instanceMethod ({ cls := "java/lang/UnsupportedOperationException", name := "<init>", desc := "(Ljava/lang/String;)V" } : Jvm.MethodName)) ∈ gt := gtn (tb2 141 rfl) rfl
theorem kw_403 : (Jvm.Cond.code ({ cls := "java/lang/UnsupportedOperationException", name := "<init>", desc := "(Ljava/lang/String;)V" } : Jvm.MethodName) prog_18_method_2_code (2 : Nat) (Option.none : Option Jvm.ClassFile.FieldType)) ∈ gt := gtn (tb2 142 rfl) rfl
theorem kw_404 : (Jvm.Cond.methodLink "java/lang/UnsupportedOperationException" (7 : Nat) ({ cls := "java/lang/RuntimeException", name := "<init>", desc := "(Ljava/lang/String;)V" } : Jvm.MethodName)) ∈ gt := gtn (tb2 143 rfl) rfl
theorem kw_405 : (Jvm.Cond.lays "java/lang/UnsupportedOperationException" "java/lang/Throwable" "depth" "I") ∈ gt := gtn (tb2 144 rfl) rfl
theorem kw_407 : (Jvm.Cond.methodLink "WearHours" (61 : Nat) ({ cls := "WearHours$Thing", name := "begin", desc := "(II)V" } : Jvm.MethodName)) ∈ gt := gtn (tb2 146 rfl) rfl
theorem kw_408 : (Jvm.Cond.instanceMethod ({ cls := "WearHours$Thing", name := "begin", desc := "(II)V" } : Jvm.MethodName)) ∈ gt := gtn (tb2 147 rfl) rfl
theorem kw_409 : (Jvm.Cond.selects "WearHours$Thing" ({ cls := "WearHours$Thing", name := "begin", desc := "(II)V" } : Jvm.MethodName) ({ cls := "WearHours$Thing", name := "begin", desc := "(II)V" } : Jvm.MethodName)) ∈ gt := gtn (tb2 148 rfl) rfl
theorem kw_410 : (Jvm.Cond.code ({ cls := "WearHours$Thing", name := "begin", desc := "(II)V" } : Jvm.MethodName) prog_6_method_2_code (3 : Nat) (Option.none : Option Jvm.ClassFile.FieldType)) ∈ gt := gtn (tb2 149 rfl) rfl
theorem kw_411 : (Jvm.Cond.methodLink "WearHoursLaw" (85 : Nat) ({ cls := "WearHoursLaw", name := "use", desc := "(LWearHours;II[J)I" } : Jvm.MethodName)) ∈ gt := gtn (tb2 150 rfl) rfl
theorem kw_412 : (Jvm.Cond.static ({ cls := "WearHoursLaw", name := "use", desc := "(LWearHours;II[J)I" } : Jvm.MethodName)) ∈ gt := gtn (tb2 151 rfl) rfl
theorem kw_413 : (Jvm.Cond.codeWith ({ cls := "WearHoursLaw", name := "use", desc := "(LWearHours;II[J)I" } : Jvm.MethodName) method_4_code (5 : Nat) (Option.some Jvm.ClassFile.FieldType.int) [((0 : Nat), (10 : Nat), (13 : Nat), (20 : Nat)), ((0 : Nat), (10 : Nat), (17 : Nat), (22 : Nat)), ((0 : Nat), (10 : Nat), (21 : Nat), (13 : Nat))]) ∈ gt := gtn (tb2 152 rfl) rfl
theorem kw_414 : (Jvm.Cond.classLink "WearHoursLaw" (20 : Nat) "java/lang/IndexOutOfBoundsException") ∈ gt := gtn (tb2 153 rfl) rfl
theorem kw_415 : (Jvm.Cond.classLink "WearHoursLaw" (22 : Nat) "java/lang/IllegalStateException") ∈ gt := gtn (tb2 154 rfl) rfl
theorem kw_416 : (Jvm.Cond.methodLink "WearHoursLaw" (17 : Nat) ({ cls := "WearHours", name := "use", desc := "(II)I" } : Jvm.MethodName)) ∈ gt := gtn (tb2 155 rfl) rfl
theorem kw_417 : (Jvm.Cond.instanceMethod ({ cls := "WearHours", name := "use", desc := "(II)I" } : Jvm.MethodName)) ∈ gt := gtn (tb2 156 rfl) rfl
theorem kw_418 : (Jvm.Cond.selects "WearHours" ({ cls := "WearHours", name := "use", desc := "(II)I" } : Jvm.MethodName) ({ cls := "WearHours", name := "use", desc := "(II)I" } : Jvm.MethodName)) ∈ gt := gtn (tb2 157 rfl) rfl
theorem kw_419 : (Jvm.Cond.code ({ cls := "WearHours", name := "use", desc := "(II)I" } : Jvm.MethodName) prog_1_method_4_code (4 : Nat) (Option.some Jvm.ClassFile.FieldType.int)) ∈ gt := gtn (tb2 158 rfl) rfl
theorem kw_420 : (Jvm.Cond.methodLink "WearHours" (65 : Nat) ({ cls := "WearHours", name := "knownThing", desc := "(I)LWearHours$Thing;" } : Jvm.MethodName)) ∈ gt := gtn (tb2 159 rfl) rfl
theorem kw_422 : (Jvm.Cond.instanceMethod ({ cls := "WearHours", name := "knownThing", desc := "(I)LWearHours$Thing;" } : Jvm.MethodName)) ∈ gt := gtn (tb2 161 rfl) rfl
theorem kw_423 : (Jvm.Cond.code ({ cls := "WearHours", name := "knownThing", desc := "(I)LWearHours$Thing;" } : Jvm.MethodName) prog_1_method_19_code (2 : Nat) (Option.some (Jvm.ClassFile.FieldType.object "WearHours$Thing"))) ∈ gt := gtn (tb2 162 rfl) rfl
theorem kw_424 : (Jvm.Cond.classLink "WearHours" (123 : Nat) "java/lang/IndexOutOfBoundsException") ∈ gt := gtn (tb2 163 rfl) rfl
theorem kw_425 : (Jvm.Cond.instantiable "java/lang/IndexOutOfBoundsException" (6 : Nat)) ∈ gt := gtn (tb2 164 rfl) rfl
theorem nw_426 : (Jvm.Cond.castable "java/lang/IndexOutOfBoundsException" "java/lang/IndexOutOfBoundsException") ∈ nwt := nwm (tb2 165 rfl) rfl
theorem kw_427 : (Jvm.Cond.selects "java/lang/IndexOutOfBoundsException" ({ cls := "java/lang/Throwable", name := "fillInStackTrace", desc := "(I)Ljava/lang/Throwable;" } : Jvm.MethodName) ({ cls := "java/lang/Throwable", name := "fillInStackTrace", desc := "(I)Ljava/lang/Throwable;" } : Jvm.MethodName)) ∈ gt := gtn (tb2 166 rfl) rfl
theorem kw_428 : (Jvm.Cond.lays "java/lang/IndexOutOfBoundsException" "java/lang/Throwable" "cause" "Ljava/lang/Throwable;") ∈ gt := gtn (tb2 167 rfl) rfl
theorem kw_429 : (Jvm.Cond.lays "java/lang/IndexOutOfBoundsException" "java/lang/Throwable" "stackTrace" "[Ljava/lang/StackTraceElement;") ∈ gt := gtn (tb2 168 rfl) rfl
theorem kw_430 : (Jvm.Cond.lays "java/lang/IndexOutOfBoundsException" "java/lang/Throwable" "suppressedExceptions" "Ljava/util/List;") ∈ gt := gtn (tb2 169 rfl) rfl
theorem kw_431 : (Jvm.Cond.lays "java/lang/IndexOutOfBoundsException" "java/lang/Throwable" "detailMessage" "Ljava/lang/String;") ∈ gt := gtn (tb2 170 rfl) rfl
theorem kw_432 : (Jvm.Cond.lays "java/lang/IndexOutOfBoundsException" "java/lang/Throwable" "backtrace" "Ljava/lang/Object;") ∈ gt := gtn (tb2 171 rfl) rfl
theorem kw_434 : (Jvm.Cond.methodLink "WearHours" (127 : Nat) ({ cls := "java/lang/IndexOutOfBoundsException", name := "<init>", desc := "(Ljava/lang/String;)V" } : Jvm.MethodName)) ∈ gt := gtn (tb2 173 rfl) rfl
theorem kw_435 : (Jvm.Cond.instanceMethod ({ cls := "java/lang/IndexOutOfBoundsException", name := "<init>", desc := "(Ljava/lang/String;)V" } : Jvm.MethodName)) ∈ gt := gtn (tb2 174 rfl) rfl
theorem kw_436 : (Jvm.Cond.code ({ cls := "java/lang/IndexOutOfBoundsException", name := "<init>", desc := "(Ljava/lang/String;)V" } : Jvm.MethodName) prog_13_method_2_code (2 : Nat) (Option.none : Option Jvm.ClassFile.FieldType)) ∈ gt := gtn (tb2 175 rfl) rfl
theorem kw_437 : (Jvm.Cond.methodLink "java/lang/IndexOutOfBoundsException" (7 : Nat) ({ cls := "java/lang/RuntimeException", name := "<init>", desc := "(Ljava/lang/String;)V" } : Jvm.MethodName)) ∈ gt := gtn (tb2 176 rfl) rfl
theorem kw_438 : (Jvm.Cond.lays "java/lang/IndexOutOfBoundsException" "java/lang/Throwable" "depth" "I") ∈ gt := gtn (tb2 177 rfl) rfl
theorem kw_440 : (Jvm.Cond.methodLink "WearHours" (69 : Nat) ({ cls := "WearHours$Thing", name := "isBarred", desc := "()Z" } : Jvm.MethodName)) ∈ gt := gtn (tb2 179 rfl) rfl
theorem kw_441 : (Jvm.Cond.instanceMethod ({ cls := "WearHours$Thing", name := "isBarred", desc := "()Z" } : Jvm.MethodName)) ∈ gt := gtn (tb2 180 rfl) rfl
theorem kw_442 : (Jvm.Cond.selects "WearHours$Thing" ({ cls := "WearHours$Thing", name := "isBarred", desc := "()Z" } : Jvm.MethodName) ({ cls := "WearHours$Thing", name := "isBarred", desc := "()Z" } : Jvm.MethodName)) ∈ gt := gtn (tb2 181 rfl) rfl
theorem kw_443 : (Jvm.Cond.code ({ cls := "WearHours$Thing", name := "isBarred", desc := "()Z" } : Jvm.MethodName) prog_6_method_3_code (1 : Nat) (Option.some Jvm.ClassFile.FieldType.boolean)) ∈ gt := gtn (tb2 182 rfl) rfl
theorem kw_444 : (Jvm.Cond.classLink "WearHours" (73 : Nat) "java/lang/IllegalStateException") ∈ gt := gtn (tb2 183 rfl) rfl
theorem kw_445 : (Jvm.Cond.instantiable "java/lang/IllegalStateException" (6 : Nat)) ∈ gt := gtn (tb2 184 rfl) rfl
theorem nw_446 : (Jvm.Cond.castable "java/lang/IllegalStateException" "java/lang/IllegalStateException") ∈ nwt := nwm (tb2 185 rfl) rfl
theorem kw_447 : (Jvm.Cond.selects "java/lang/IllegalStateException" ({ cls := "java/lang/Throwable", name := "fillInStackTrace", desc := "(I)Ljava/lang/Throwable;" } : Jvm.MethodName) ({ cls := "java/lang/Throwable", name := "fillInStackTrace", desc := "(I)Ljava/lang/Throwable;" } : Jvm.MethodName)) ∈ gt := gtn (tb2 186 rfl) rfl
theorem kw_448 : (Jvm.Cond.lays "java/lang/IllegalStateException" "java/lang/Throwable" "cause" "Ljava/lang/Throwable;") ∈ gt := gtn (tb2 187 rfl) rfl
theorem kw_449 : (Jvm.Cond.lays "java/lang/IllegalStateException" "java/lang/Throwable" "stackTrace" "[Ljava/lang/StackTraceElement;") ∈ gt := gtn (tb2 188 rfl) rfl
theorem kw_450 : (Jvm.Cond.lays "java/lang/IllegalStateException" "java/lang/Throwable" "suppressedExceptions" "Ljava/util/List;") ∈ gt := gtn (tb2 189 rfl) rfl
theorem kw_451 : (Jvm.Cond.lays "java/lang/IllegalStateException" "java/lang/Throwable" "detailMessage" "Ljava/lang/String;") ∈ gt := gtn (tb2 190 rfl) rfl
theorem kw_452 : (Jvm.Cond.lays "java/lang/IllegalStateException" "java/lang/Throwable" "backtrace" "Ljava/lang/Object;") ∈ gt := gtn (tb2 191 rfl) rfl
theorem kw_454 : (Jvm.Cond.methodLink "WearHours" (77 : Nat) ({ cls := "java/lang/IllegalStateException", name := "<init>", desc := "(Ljava/lang/String;)V" } : Jvm.MethodName)) ∈ gt := gtn (tb2 193 rfl) rfl
theorem kw_455 : (Jvm.Cond.instanceMethod ({ cls := "java/lang/IllegalStateException", name := "<init>", desc := "(Ljava/lang/String;)V" } : Jvm.MethodName)) ∈ gt := gtn (tb2 194 rfl) rfl
theorem kw_456 : (Jvm.Cond.code ({ cls := "java/lang/IllegalStateException", name := "<init>", desc := "(Ljava/lang/String;)V" } : Jvm.MethodName) prog_12_method_2_code (2 : Nat) (Option.none : Option Jvm.ClassFile.FieldType)) ∈ gt := gtn (tb2 195 rfl) rfl
theorem kw_457 : (Jvm.Cond.methodLink "java/lang/IllegalStateException" (7 : Nat) ({ cls := "java/lang/RuntimeException", name := "<init>", desc := "(Ljava/lang/String;)V" } : Jvm.MethodName)) ∈ gt := gtn (tb2 196 rfl) rfl
theorem kw_458 : (Jvm.Cond.lays "java/lang/IllegalStateException" "java/lang/Throwable" "depth" "I") ∈ gt := gtn (tb2 197 rfl) rfl
theorem kw_461 : (Jvm.Cond.methodLink "WearHours" (80 : Nat) ({ cls := "WearHours$Thing", name := "wear", desc := "(I)V" } : Jvm.MethodName)) ∈ gt := gtn (tb2 200 rfl) rfl
theorem kw_462 : (Jvm.Cond.instanceMethod ({ cls := "WearHours$Thing", name := "wear", desc := "(I)V" } : Jvm.MethodName)) ∈ gt := gtn (tb2 201 rfl) rfl
theorem kw_463 : (Jvm.Cond.selects "WearHours$Thing" ({ cls := "WearHours$Thing", name := "wear", desc := "(I)V" } : Jvm.MethodName) ({ cls := "WearHours$Thing", name := "wear", desc := "(I)V" } : Jvm.MethodName)) ∈ gt := gtn (tb2 202 rfl) rfl
theorem kw_464 : (Jvm.Cond.code ({ cls := "WearHours$Thing", name := "wear", desc := "(I)V" } : Jvm.MethodName) prog_6_method_5_code (2 : Nat) (Option.none : Option Jvm.ClassFile.FieldType)) ∈ gt := gtn (tb2 203 rfl) rfl
theorem kw_465 : (Jvm.Cond.methodLink "WearHours$Thing" (33 : Nat) ({ cls := "WearHours$Thing", name := "keep", desc := "(I)V" } : Jvm.MethodName)) ∈ gt := gtn (tb2 204 rfl) rfl
theorem kw_467 : (Jvm.Cond.instanceMethod ({ cls := "WearHours$Thing", name := "keep", desc := "(I)V" } : Jvm.MethodName)) ∈ gt := gtn (tb2 206 rfl) rfl
theorem kw_468 : (Jvm.Cond.code ({ cls := "WearHours$Thing", name := "keep", desc := "(I)V" } : Jvm.MethodName) prog_6_method_9_code (3 : Nat) (Option.none : Option Jvm.ClassFile.FieldType)) ∈ gt := gtn (tb2 207 rfl) rfl
theorem kw_469 : (Jvm.Cond.methodLink "WearHoursLaw" (88 : Nat) ({ cls := "WearHoursLaw", name := "told", desc := "(LWearHours;II[J)I" } : Jvm.MethodName)) ∈ gt := gtn (tb2 208 rfl) rfl
theorem kw_470 : (Jvm.Cond.static ({ cls := "WearHoursLaw", name := "told", desc := "(LWearHours;II[J)I" } : Jvm.MethodName)) ∈ gt := gtn (tb2 209 rfl) rfl
theorem kw_471 : (Jvm.Cond.codeWith ({ cls := "WearHoursLaw", name := "told", desc := "(LWearHours;II[J)I" } : Jvm.MethodName) method_5_code (5 : Nat) (Option.some Jvm.ClassFile.FieldType.int) [((0 : Nat), (10 : Nat), (13 : Nat), (20 : Nat))]) ∈ gt := gtn (tb2 210 rfl) rfl
theorem kw_472 : (Jvm.Cond.methodLink "WearHoursLaw" (24 : Nat) ({ cls := "WearHours", name := "told", desc := "(II)I" } : Jvm.MethodName)) ∈ gt := gtn (tb2 211 rfl) rfl
theorem kw_473 : (Jvm.Cond.instanceMethod ({ cls := "WearHours", name := "told", desc := "(II)I" } : Jvm.MethodName)) ∈ gt := gtn (tb2 212 rfl) rfl
theorem kw_474 : (Jvm.Cond.selects "WearHours" ({ cls := "WearHours", name := "told", desc := "(II)I" } : Jvm.MethodName) ({ cls := "WearHours", name := "told", desc := "(II)I" } : Jvm.MethodName)) ∈ gt := gtn (tb2 213 rfl) rfl
theorem kw_475 : (Jvm.Cond.code ({ cls := "WearHours", name := "told", desc := "(II)I" } : Jvm.MethodName) prog_1_method_5_code (4 : Nat) (Option.some Jvm.ClassFile.FieldType.int)) ∈ gt := gtn (tb2 214 rfl) rfl
theorem kw_476 : (Jvm.Cond.methodLink "WearHours" (87 : Nat) ({ cls := "WearHours", name := "checkWhat", desc := "(I)V" } : Jvm.MethodName)) ∈ gt := gtn (tb2 215 rfl) rfl
theorem kw_477 : (Jvm.Cond.static ({ cls := "WearHours", name := "checkWhat", desc := "(I)V" } : Jvm.MethodName)) ∈ gt := gtn (tb2 216 rfl) rfl
theorem kw_478 : (Jvm.Cond.code ({ cls := "WearHours", name := "checkWhat", desc := "(I)V" } : Jvm.MethodName) prog_1_method_20_code (1 : Nat) (Option.none : Option Jvm.ClassFile.FieldType)) ∈ gt := gtn (tb2 217 rfl) rfl
theorem kw_480 : (Jvm.Cond.methodLink "WearHours" (90 : Nat) ({ cls := "WearHours$Thing", name := "unitsToBound", desc := "()I" } : Jvm.MethodName)) ∈ gt := gtn (tb2 219 rfl) rfl
theorem kw_481 : (Jvm.Cond.instanceMethod ({ cls := "WearHours$Thing", name := "unitsToBound", desc := "()I" } : Jvm.MethodName)) ∈ gt := gtn (tb2 220 rfl) rfl
theorem kw_482 : (Jvm.Cond.selects "WearHours$Thing" ({ cls := "WearHours$Thing", name := "unitsToBound", desc := "()I" } : Jvm.MethodName) ({ cls := "WearHours$Thing", name := "unitsToBound", desc := "()I" } : Jvm.MethodName)) ∈ gt := gtn (tb2 221 rfl) rfl
theorem kw_483 : (Jvm.Cond.code ({ cls := "WearHours$Thing", name := "unitsToBound", desc := "()I" } : Jvm.MethodName) prog_6_method_4_code (1 : Nat) (Option.some Jvm.ClassFile.FieldType.int)) ∈ gt := gtn (tb2 222 rfl) rfl
theorem kw_484 : (Jvm.Cond.methodLink "WearHours$Thing" (27 : Nat) ({ cls := "java/lang/Math", name := "max", desc := "(II)I" } : Jvm.MethodName)) ∈ gt := gtn (tb2 223 rfl) rfl
theorem kw_485 : (Jvm.Cond.methodLink "WearHoursLaw" (91 : Nat) ({ cls := "WearHoursLaw", name := "left", desc := "(LWearHours;II[J)I" } : Jvm.MethodName)) ∈ gt := gtn (tb2 224 rfl) rfl
theorem kw_486 : (Jvm.Cond.static ({ cls := "WearHoursLaw", name := "left", desc := "(LWearHours;II[J)I" } : Jvm.MethodName)) ∈ gt := gtn (tb2 225 rfl) rfl
theorem kw_487 : (Jvm.Cond.codeWith ({ cls := "WearHoursLaw", name := "left", desc := "(LWearHours;II[J)I" } : Jvm.MethodName) method_6_code (5 : Nat) (Option.some Jvm.ClassFile.FieldType.int) [((0 : Nat), (10 : Nat), (13 : Nat), (20 : Nat)), ((0 : Nat), (10 : Nat), (17 : Nat), (13 : Nat))]) ∈ gt := gtn (tb2 226 rfl) rfl
theorem kw_488 : (Jvm.Cond.methodLink "WearHoursLaw" (27 : Nat) ({ cls := "WearHours", name := "left", desc := "(II)I" } : Jvm.MethodName)) ∈ gt := gtn (tb2 227 rfl) rfl
theorem kw_489 : (Jvm.Cond.instanceMethod ({ cls := "WearHours", name := "left", desc := "(II)I" } : Jvm.MethodName)) ∈ gt := gtn (tb2 228 rfl) rfl
theorem kw_490 : (Jvm.Cond.selects "WearHours" ({ cls := "WearHours", name := "left", desc := "(II)I" } : Jvm.MethodName) ({ cls := "WearHours", name := "left", desc := "(II)I" } : Jvm.MethodName)) ∈ gt := gtn (tb2 229 rfl) rfl
theorem kw_491 : (Jvm.Cond.code ({ cls := "WearHours", name := "left", desc := "(II)I" } : Jvm.MethodName) prog_1_method_6_code (7 : Nat) (Option.some Jvm.ClassFile.FieldType.int)) ∈ gt := gtn (tb2 230 rfl) rfl
theorem kw_493 : (Jvm.Cond.constantLong "WearHours" (96 : Nat) (1001 : Int64)) ∈ gt := gtn (tb2 232 rfl) rfl
theorem kw_494 : (Jvm.Cond.methodLink "WearHours" (98 : Nat) ({ cls := "WearHours", name := "drawnNumber", desc := "(J)J" } : Jvm.MethodName)) ∈ gt := gtn (tb2 233 rfl) rfl
theorem kw_496 : (Jvm.Cond.instanceMethod ({ cls := "WearHours", name := "drawnNumber", desc := "(J)J" } : Jvm.MethodName)) ∈ gt := gtn (tb2 235 rfl) rfl
theorem kw_497 : (Jvm.Cond.code ({ cls := "WearHours", name := "drawnNumber", desc := "(J)J" } : Jvm.MethodName) prog_1_method_24_code (5 : Nat) (Option.some Jvm.ClassFile.FieldType.long)) ∈ gt := gtn (tb2 236 rfl) rfl
theorem kw_498 : (Jvm.Cond.constantLong "WearHours" (237 : Nat) (-7046029254386353131 : Int64)) ∈ gt := gtn (tb2 237 rfl) rfl
theorem kw_499 : (Jvm.Cond.constantLong "WearHours" (239 : Nat) (-4658895280553007687 : Int64)) ∈ gt := gtn (tb2 238 rfl) rfl
theorem kw_500 : (Jvm.Cond.constantLong "WearHours" (241 : Nat) (-7723592293110705685 : Int64)) ∈ gt := gtn (tb2 239 rfl) rfl
theorem kw_501 : (Jvm.Cond.constantLong "WearHours" (243 : Nat) (9223372036854775807 : Int64)) ∈ gt := gtn (tb3 0 rfl) rfl
theorem kw_502 : (Jvm.Cond.constantLong "WearHours" (102 : Nat) (101 : Int64)) ∈ gt := gtn (tb3 1 rfl) rfl
theorem kw_503 : (Jvm.Cond.methodLink "WearHours" (107 : Nat) ({ cls := "java/lang/Math", name := "max", desc := "(II)I" } : Jvm.MethodName)) ∈ gt := gtn (tb3 2 rfl) rfl
theorem kw_504 : (Jvm.Cond.methodLink "WearHoursLaw" (94 : Nat) ({ cls := "WearHoursLaw", name := "permit", desc := "(LWearHours;IZ)I" } : Jvm.MethodName)) ∈ gt := gtn (tb3 3 rfl) rfl
theorem kw_505 : (Jvm.Cond.static ({ cls := "WearHoursLaw", name := "permit", desc := "(LWearHours;IZ)I" } : Jvm.MethodName)) ∈ gt := gtn (tb3 4 rfl) rfl
theorem kw_506 : (Jvm.Cond.codeWith ({ cls := "WearHoursLaw", name := "permit", desc := "(LWearHours;IZ)I" } : Jvm.MethodName) method_7_code (4 : Nat) (Option.some Jvm.ClassFile.FieldType.int) [((0 : Nat), (6 : Nat), (9 : Nat), (20 : Nat)), ((0 : Nat), (6 : Nat), (12 : Nat), (15 : Nat))]) ∈ gt := gtn (tb3 5 rfl) rfl
theorem kw_507 : (Jvm.Cond.methodLink "WearHoursLaw" (30 : Nat) ({ cls := "WearHours", name := "permit", desc := "(IZ)V" } : Jvm.MethodName)) ∈ gt := gtn (tb3 6 rfl) rfl
theorem kw_508 : (Jvm.Cond.instanceMethod ({ cls := "WearHours", name := "permit", desc := "(IZ)V" } : Jvm.MethodName)) ∈ gt := gtn (tb3 7 rfl) rfl
theorem kw_509 : (Jvm.Cond.selects "WearHours" ({ cls := "WearHours", name := "permit", desc := "(IZ)V" } : Jvm.MethodName) ({ cls := "WearHours", name := "permit", desc := "(IZ)V" } : Jvm.MethodName)) ∈ gt := gtn (tb3 8 rfl) rfl
theorem kw_510 : (Jvm.Cond.code ({ cls := "WearHours", name := "permit", desc := "(IZ)V" } : Jvm.MethodName) prog_1_method_7_code (4 : Nat) (Option.none : Option Jvm.ClassFile.FieldType)) ∈ gt := gtn (tb3 9 rfl) rfl
theorem kw_512 : (Jvm.Cond.methodLink "WearHours" (119 : Nat) ({ cls := "WearHours$Thing", name := "setPermit", desc := "(Z)V" } : Jvm.MethodName)) ∈ gt := gtn (tb3 11 rfl) rfl
theorem kw_513 : (Jvm.Cond.instanceMethod ({ cls := "WearHours$Thing", name := "setPermit", desc := "(Z)V" } : Jvm.MethodName)) ∈ gt := gtn (tb3 12 rfl) rfl
theorem kw_514 : (Jvm.Cond.selects "WearHours$Thing" ({ cls := "WearHours$Thing", name := "setPermit", desc := "(Z)V" } : Jvm.MethodName) ({ cls := "WearHours$Thing", name := "setPermit", desc := "(Z)V" } : Jvm.MethodName)) ∈ gt := gtn (tb3 13 rfl) rfl
theorem kw_515 : (Jvm.Cond.code ({ cls := "WearHours$Thing", name := "setPermit", desc := "(Z)V" } : Jvm.MethodName) prog_6_method_7_code (2 : Nat) (Option.none : Option Jvm.ClassFile.FieldType)) ∈ gt := gtn (tb3 14 rfl) rfl
theorem kw_516 : (Jvm.Cond.methodLink "WearHoursLaw" (98 : Nat) ({ cls := "WearHoursLaw", name := "history", desc := "(LWearHours;II[J)I" } : Jvm.MethodName)) ∈ gt := gtn (tb3 15 rfl) rfl
theorem kw_517 : (Jvm.Cond.static ({ cls := "WearHoursLaw", name := "history", desc := "(LWearHours;II[J)I" } : Jvm.MethodName)) ∈ gt := gtn (tb3 16 rfl) rfl
theorem kw_518 : (Jvm.Cond.codeWith ({ cls := "WearHoursLaw", name := "history", desc := "(LWearHours;II[J)I" } : Jvm.MethodName) method_8_code (5 : Nat) (Option.some Jvm.ClassFile.FieldType.int) [((0 : Nat), (10 : Nat), (13 : Nat), (20 : Nat))]) ∈ gt := gtn (tb3 17 rfl) rfl
theorem kw_519 : (Jvm.Cond.methodLink "WearHoursLaw" (34 : Nat) ({ cls := "WearHours", name := "history", desc := "(II)I" } : Jvm.MethodName)) ∈ gt := gtn (tb3 18 rfl) rfl
theorem kw_520 : (Jvm.Cond.instanceMethod ({ cls := "WearHours", name := "history", desc := "(II)I" } : Jvm.MethodName)) ∈ gt := gtn (tb3 19 rfl) rfl
theorem kw_521 : (Jvm.Cond.selects "WearHours" ({ cls := "WearHours", name := "history", desc := "(II)I" } : Jvm.MethodName) ({ cls := "WearHours", name := "history", desc := "(II)I" } : Jvm.MethodName)) ∈ gt := gtn (tb3 20 rfl) rfl
theorem kw_522 : (Jvm.Cond.code ({ cls := "WearHours", name := "history", desc := "(II)I" } : Jvm.MethodName) prog_1_method_8_code (4 : Nat) (Option.some Jvm.ClassFile.FieldType.int)) ∈ gt := gtn (tb3 21 rfl) rfl
theorem kw_524 : (Jvm.Cond.methodLink "WearHours" (128 : Nat) ({ cls := "WearHours$Thing", name := "change", desc := "(I)I" } : Jvm.MethodName)) ∈ gt := gtn (tb3 23 rfl) rfl
theorem kw_525 : (Jvm.Cond.instanceMethod ({ cls := "WearHours$Thing", name := "change", desc := "(I)I" } : Jvm.MethodName)) ∈ gt := gtn (tb3 24 rfl) rfl
theorem kw_526 : (Jvm.Cond.selects "WearHours$Thing" ({ cls := "WearHours$Thing", name := "change", desc := "(I)I" } : Jvm.MethodName) ({ cls := "WearHours$Thing", name := "change", desc := "(I)I" } : Jvm.MethodName)) ∈ gt := gtn (tb3 25 rfl) rfl
theorem kw_527 : (Jvm.Cond.code ({ cls := "WearHours$Thing", name := "change", desc := "(I)I" } : Jvm.MethodName) prog_6_method_8_code (2 : Nat) (Option.some Jvm.ClassFile.FieldType.int)) ∈ gt := gtn (tb3 26 rfl) rfl
theorem kw_528 : (Jvm.Cond.methodLink "WearHoursLaw" (101 : Nat) ({ cls := "WearHoursLaw", name := "gap", desc := "(LWearHours;II[J)I" } : Jvm.MethodName)) ∈ gt := gtn (tb3 27 rfl) rfl
theorem kw_529 : (Jvm.Cond.static ({ cls := "WearHoursLaw", name := "gap", desc := "(LWearHours;II[J)I" } : Jvm.MethodName)) ∈ gt := gtn (tb3 28 rfl) rfl
theorem kw_530 : (Jvm.Cond.codeWith ({ cls := "WearHoursLaw", name := "gap", desc := "(LWearHours;II[J)I" } : Jvm.MethodName) method_9_code (5 : Nat) (Option.some Jvm.ClassFile.FieldType.int) [((0 : Nat), (10 : Nat), (13 : Nat), (13 : Nat)), ((0 : Nat), (10 : Nat), (17 : Nat), (15 : Nat))]) ∈ gt := gtn (tb3 29 rfl) rfl
theorem kw_531 : (Jvm.Cond.methodLink "WearHoursLaw" (37 : Nat) ({ cls := "WearHours", name := "gap", desc := "(II)I" } : Jvm.MethodName)) ∈ gt := gtn (tb3 30 rfl) rfl
theorem kw_532 : (Jvm.Cond.instanceMethod ({ cls := "WearHours", name := "gap", desc := "(II)I" } : Jvm.MethodName)) ∈ gt := gtn (tb3 31 rfl) rfl
theorem kw_533 : (Jvm.Cond.selects "WearHours" ({ cls := "WearHours", name := "gap", desc := "(II)I" } : Jvm.MethodName) ({ cls := "WearHours", name := "gap", desc := "(II)I" } : Jvm.MethodName)) ∈ gt := gtn (tb3 32 rfl) rfl
theorem kw_534 : (Jvm.Cond.code ({ cls := "WearHours", name := "gap", desc := "(II)I" } : Jvm.MethodName) prog_1_method_9_code (3 : Nat) (Option.some Jvm.ClassFile.FieldType.int)) ∈ gt := gtn (tb3 33 rfl) rfl
theorem kw_535 : (Jvm.Cond.methodLink "WearHours" (132 : Nat) ({ cls := "WearHours", name := "checkHours", desc := "(II)V" } : Jvm.MethodName)) ∈ gt := gtn (tb3 34 rfl) rfl
theorem kw_536 : (Jvm.Cond.static ({ cls := "WearHours", name := "checkHours", desc := "(II)V" } : Jvm.MethodName)) ∈ gt := gtn (tb3 35 rfl) rfl
theorem kw_537 : (Jvm.Cond.code ({ cls := "WearHours", name := "checkHours", desc := "(II)V" } : Jvm.MethodName) prog_1_method_21_code (2 : Nat) (Option.none : Option Jvm.ClassFile.FieldType)) ∈ gt := gtn (tb3 36 rfl) rfl
theorem kw_540 : (Jvm.Cond.methodLink "WearHours" (140 : Nat) ({ cls := "WearHours$Week", name := "addGap", desc := "(II)V" } : Jvm.MethodName)) ∈ gt := gtn (tb3 39 rfl) rfl
theorem kw_541 : (Jvm.Cond.instanceMethod ({ cls := "WearHours$Week", name := "addGap", desc := "(II)V" } : Jvm.MethodName)) ∈ gt := gtn (tb3 40 rfl) rfl
theorem kw_542 : (Jvm.Cond.selects "WearHours$Week" ({ cls := "WearHours$Week", name := "addGap", desc := "(II)V" } : Jvm.MethodName) ({ cls := "WearHours$Week", name := "addGap", desc := "(II)V" } : Jvm.MethodName)) ∈ gt := gtn (tb3 41 rfl) rfl
theorem kw_543 : (Jvm.Cond.code ({ cls := "WearHours$Week", name := "addGap", desc := "(II)V" } : Jvm.MethodName) prog_7_method_2_code (4 : Nat) (Option.none : Option Jvm.ClassFile.FieldType)) ∈ gt := gtn (tb3 42 rfl) rfl
theorem kw_544 : (Jvm.Cond.methodLink "WearHours" (143 : Nat) ({ cls := "WearHours$Planner", name := "forget", desc := "()V" } : Jvm.MethodName)) ∈ gt := gtn (tb3 43 rfl) rfl
theorem kw_545 : (Jvm.Cond.instanceMethod ({ cls := "WearHours$Planner", name := "forget", desc := "()V" } : Jvm.MethodName)) ∈ gt := gtn (tb3 44 rfl) rfl
theorem kw_546 : (Jvm.Cond.selects "WearHours$Planner" ({ cls := "WearHours$Planner", name := "forget", desc := "()V" } : Jvm.MethodName) ({ cls := "WearHours$Planner", name := "forget", desc := "()V" } : Jvm.MethodName)) ∈ gt := gtn (tb3 45 rfl) rfl
theorem kw_547 : (Jvm.Cond.code ({ cls := "WearHours$Planner", name := "forget", desc := "()V" } : Jvm.MethodName) prog_4_method_2_code (1 : Nat) (Option.none : Option Jvm.ClassFile.FieldType)) ∈ gt := gtn (tb3 46 rfl) rfl
theorem kw_548 : (Jvm.Cond.methodLink "WearHoursLaw" (104 : Nat) ({ cls := "WearHoursLaw", name := "person", desc := "(LWearHours;III[J)I" } : Jvm.MethodName)) ∈ gt := gtn (tb3 47 rfl) rfl
theorem kw_549 : (Jvm.Cond.static ({ cls := "WearHoursLaw", name := "person", desc := "(LWearHours;III[J)I" } : Jvm.MethodName)) ∈ gt := gtn (tb3 48 rfl) rfl
theorem kw_550 : (Jvm.Cond.codeWith ({ cls := "WearHoursLaw", name := "person", desc := "(LWearHours;III[J)I" } : Jvm.MethodName) method_10_code (6 : Nat) (Option.some Jvm.ClassFile.FieldType.int) [((0 : Nat), (12 : Nat), (15 : Nat), (13 : Nat)), ((0 : Nat), (12 : Nat), (19 : Nat), (15 : Nat))]) ∈ gt := gtn (tb3 49 rfl) rfl
theorem kw_551 : (Jvm.Cond.methodLink "WearHoursLaw" (40 : Nat) ({ cls := "WearHours", name := "person", desc := "(III)I" } : Jvm.MethodName)) ∈ gt := gtn (tb3 50 rfl) rfl
theorem kw_552 : (Jvm.Cond.instanceMethod ({ cls := "WearHours", name := "person", desc := "(III)I" } : Jvm.MethodName)) ∈ gt := gtn (tb3 51 rfl) rfl
theorem kw_553 : (Jvm.Cond.selects "WearHours" ({ cls := "WearHours", name := "person", desc := "(III)I" } : Jvm.MethodName) ({ cls := "WearHours", name := "person", desc := "(III)I" } : Jvm.MethodName)) ∈ gt := gtn (tb3 52 rfl) rfl
theorem kw_554 : (Jvm.Cond.code ({ cls := "WearHours", name := "person", desc := "(III)I" } : Jvm.MethodName) prog_1_method_10_code (4 : Nat) (Option.some Jvm.ClassFile.FieldType.int)) ∈ gt := gtn (tb3 53 rfl) rfl
theorem kw_555 : (Jvm.Cond.methodLink "WearHours" (146 : Nat) ({ cls := "WearHours", name := "checkSkill", desc := "(I)V" } : Jvm.MethodName)) ∈ gt := gtn (tb3 54 rfl) rfl
theorem kw_556 : (Jvm.Cond.static ({ cls := "WearHours", name := "checkSkill", desc := "(I)V" } : Jvm.MethodName)) ∈ gt := gtn (tb3 55 rfl) rfl
theorem kw_557 : (Jvm.Cond.code ({ cls := "WearHours", name := "checkSkill", desc := "(I)V" } : Jvm.MethodName) prog_1_method_22_code (1 : Nat) (Option.none : Option Jvm.ClassFile.FieldType)) ∈ gt := gtn (tb3 56 rfl) rfl
theorem kw_560 : (Jvm.Cond.methodLink "WearHours" (154 : Nat) ({ cls := "WearHours$Week", name := "addPerson", desc := "(III)V" } : Jvm.MethodName)) ∈ gt := gtn (tb3 59 rfl) rfl
theorem kw_561 : (Jvm.Cond.instanceMethod ({ cls := "WearHours$Week", name := "addPerson", desc := "(III)V" } : Jvm.MethodName)) ∈ gt := gtn (tb3 60 rfl) rfl
theorem kw_562 : (Jvm.Cond.selects "WearHours$Week" ({ cls := "WearHours$Week", name := "addPerson", desc := "(III)V" } : Jvm.MethodName) ({ cls := "WearHours$Week", name := "addPerson", desc := "(III)V" } : Jvm.MethodName)) ∈ gt := gtn (tb3 61 rfl) rfl
theorem kw_563 : (Jvm.Cond.code ({ cls := "WearHours$Week", name := "addPerson", desc := "(III)V" } : Jvm.MethodName) prog_7_method_3_code (5 : Nat) (Option.none : Option Jvm.ClassFile.FieldType)) ∈ gt := gtn (tb3 62 rfl) rfl
theorem kw_564 : (Jvm.Cond.methodLink "WearHoursLaw" (108 : Nat) ({ cls := "WearHoursLaw", name := "repair", desc := "(LWearHours;IIII[J)I" } : Jvm.MethodName)) ∈ gt := gtn (tb3 63 rfl) rfl
theorem kw_565 : (Jvm.Cond.static ({ cls := "WearHoursLaw", name := "repair", desc := "(LWearHours;IIII[J)I" } : Jvm.MethodName)) ∈ gt := gtn (tb3 64 rfl) rfl
theorem kw_566 : (Jvm.Cond.codeWith ({ cls := "WearHoursLaw", name := "repair", desc := "(LWearHours;IIII[J)I" } : Jvm.MethodName) method_11_code (7 : Nat) (Option.some Jvm.ClassFile.FieldType.int) [((0 : Nat), (14 : Nat), (17 : Nat), (20 : Nat)), ((0 : Nat), (14 : Nat), (21 : Nat), (13 : Nat)), ((0 : Nat), (14 : Nat), (25 : Nat), (15 : Nat))]) ∈ gt := gtn (tb3 65 rfl) rfl
theorem kw_567 : (Jvm.Cond.methodLink "WearHoursLaw" (44 : Nat) ({ cls := "WearHours", name := "repair", desc := "(IIII)I" } : Jvm.MethodName)) ∈ gt := gtn (tb3 66 rfl) rfl
theorem kw_568 : (Jvm.Cond.instanceMethod ({ cls := "WearHours", name := "repair", desc := "(IIII)I" } : Jvm.MethodName)) ∈ gt := gtn (tb3 67 rfl) rfl
theorem kw_569 : (Jvm.Cond.selects "WearHours" ({ cls := "WearHours", name := "repair", desc := "(IIII)I" } : Jvm.MethodName) ({ cls := "WearHours", name := "repair", desc := "(IIII)I" } : Jvm.MethodName)) ∈ gt := gtn (tb3 68 rfl) rfl
theorem kw_570 : (Jvm.Cond.code ({ cls := "WearHours", name := "repair", desc := "(IIII)I" } : Jvm.MethodName) prog_1_method_11_code (5 : Nat) (Option.some Jvm.ClassFile.FieldType.int)) ∈ gt := gtn (tb3 69 rfl) rfl
theorem kw_573 : (Jvm.Cond.methodLink "WearHours" (165 : Nat) ({ cls := "WearHours$Week", name := "addRepair", desc := "(IIII)V" } : Jvm.MethodName)) ∈ gt := gtn (tb3 72 rfl) rfl
theorem kw_574 : (Jvm.Cond.instanceMethod ({ cls := "WearHours$Week", name := "addRepair", desc := "(IIII)V" } : Jvm.MethodName)) ∈ gt := gtn (tb3 73 rfl) rfl
theorem kw_575 : (Jvm.Cond.selects "WearHours$Week" ({ cls := "WearHours$Week", name := "addRepair", desc := "(IIII)V" } : Jvm.MethodName) ({ cls := "WearHours$Week", name := "addRepair", desc := "(IIII)V" } : Jvm.MethodName)) ∈ gt := gtn (tb3 74 rfl) rfl
theorem kw_576 : (Jvm.Cond.code ({ cls := "WearHours$Week", name := "addRepair", desc := "(IIII)V" } : Jvm.MethodName) prog_7_method_4_code (6 : Nat) (Option.none : Option Jvm.ClassFile.FieldType)) ∈ gt := gtn (tb3 75 rfl) rfl
theorem kw_577 : (Jvm.Cond.methodLink "WearHours$Week" (67 : Nat) ({ cls := "WearHours$Repair", name := "unplace", desc := "()V" } : Jvm.MethodName)) ∈ gt := gtn (tb3 76 rfl) rfl
theorem kw_578 : (Jvm.Cond.methodLink "WearHoursLaw" (112 : Nat) ({ cls := "WearHoursLaw", name := "rules", desc := "(LWearHours;II)I" } : Jvm.MethodName)) ∈ gt := gtn (tb3 77 rfl) rfl
theorem kw_579 : (Jvm.Cond.static ({ cls := "WearHoursLaw", name := "rules", desc := "(LWearHours;II)I" } : Jvm.MethodName)) ∈ gt := gtn (tb3 78 rfl) rfl
theorem kw_580 : (Jvm.Cond.codeWith ({ cls := "WearHoursLaw", name := "rules", desc := "(LWearHours;II)I" } : Jvm.MethodName) method_12_code (4 : Nat) (Option.some Jvm.ClassFile.FieldType.int) [((0 : Nat), (6 : Nat), (9 : Nat), (13 : Nat))]) ∈ gt := gtn (tb3 79 rfl) rfl
theorem kw_581 : (Jvm.Cond.methodLink "WearHoursLaw" (48 : Nat) ({ cls := "WearHours", name := "rules", desc := "(II)V" } : Jvm.MethodName)) ∈ gt := gtn (tb3 80 rfl) rfl
theorem kw_582 : (Jvm.Cond.instanceMethod ({ cls := "WearHours", name := "rules", desc := "(II)V" } : Jvm.MethodName)) ∈ gt := gtn (tb3 81 rfl) rfl
theorem kw_583 : (Jvm.Cond.selects "WearHours" ({ cls := "WearHours", name := "rules", desc := "(II)V" } : Jvm.MethodName) ({ cls := "WearHours", name := "rules", desc := "(II)V" } : Jvm.MethodName)) ∈ gt := gtn (tb3 82 rfl) rfl
theorem kw_584 : (Jvm.Cond.code ({ cls := "WearHours", name := "rules", desc := "(II)V" } : Jvm.MethodName) prog_1_method_12_code (3 : Nat) (Option.none : Option Jvm.ClassFile.FieldType)) ∈ gt := gtn (tb3 83 rfl) rfl
theorem kw_586 : (Jvm.Cond.methodLink "WearHoursLaw" (120 : Nat) ({ cls := "WearHoursLaw", name := "at", desc := "(LWearHours;II[J)I" } : Jvm.MethodName)) ∈ gt := gtn (tb3 85 rfl) rfl
theorem kw_587 : (Jvm.Cond.static ({ cls := "WearHoursLaw", name := "at", desc := "(LWearHours;II[J)I" } : Jvm.MethodName)) ∈ gt := gtn (tb3 86 rfl) rfl
theorem kw_588 : (Jvm.Cond.codeWith ({ cls := "WearHoursLaw", name := "at", desc := "(LWearHours;II[J)I" } : Jvm.MethodName) method_13_code (5 : Nat) (Option.some Jvm.ClassFile.FieldType.int) [((0 : Nat), (10 : Nat), (13 : Nat), (20 : Nat)), ((0 : Nat), (10 : Nat), (17 : Nat), (22 : Nat))]) ∈ gt := gtn (tb3 87 rfl) rfl
theorem kw_589 : (Jvm.Cond.methodLink "WearHoursLaw" (52 : Nat) ({ cls := "WearHours", name := "at", desc := "(II)I" } : Jvm.MethodName)) ∈ gt := gtn (tb3 88 rfl) rfl
theorem kw_590 : (Jvm.Cond.instanceMethod ({ cls := "WearHours", name := "at", desc := "(II)I" } : Jvm.MethodName)) ∈ gt := gtn (tb3 89 rfl) rfl
theorem kw_591 : (Jvm.Cond.selects "WearHours" ({ cls := "WearHours", name := "at", desc := "(II)I" } : Jvm.MethodName) ({ cls := "WearHours", name := "at", desc := "(II)I" } : Jvm.MethodName)) ∈ gt := gtn (tb3 90 rfl) rfl
theorem kw_592 : (Jvm.Cond.code ({ cls := "WearHours", name := "at", desc := "(II)I" } : Jvm.MethodName) prog_1_method_14_code (4 : Nat) (Option.some Jvm.ClassFile.FieldType.int)) ∈ gt := gtn (tb3 91 rfl) rfl
theorem kw_594 : (Jvm.Cond.methodLink "WearHours" (188 : Nat) ({ cls := "WearHours", name := "checkPlan", desc := "()V" } : Jvm.MethodName)) ∈ gt := gtn (tb3 93 rfl) rfl
theorem kw_596 : (Jvm.Cond.instanceMethod ({ cls := "WearHours", name := "checkPlan", desc := "()V" } : Jvm.MethodName)) ∈ gt := gtn (tb3 95 rfl) rfl
theorem kw_597 : (Jvm.Cond.code ({ cls := "WearHours", name := "checkPlan", desc := "()V" } : Jvm.MethodName) prog_1_method_23_code (1 : Nat) (Option.none : Option Jvm.ClassFile.FieldType)) ∈ gt := gtn (tb3 96 rfl) rfl
theorem kw_599 : (Jvm.Cond.methodLink "WearHoursLaw" (123 : Nat) ({ cls := "WearHoursLaw", name := "cost", desc := "(LWearHours;[J)I" } : Jvm.MethodName)) ∈ gt := gtn (tb3 98 rfl) rfl
theorem kw_600 : (Jvm.Cond.static ({ cls := "WearHoursLaw", name := "cost", desc := "(LWearHours;[J)I" } : Jvm.MethodName)) ∈ gt := gtn (tb3 99 rfl) rfl
theorem kw_601 : (Jvm.Cond.codeWith ({ cls := "WearHoursLaw", name := "cost", desc := "(LWearHours;[J)I" } : Jvm.MethodName) method_14_code (3 : Nat) (Option.some Jvm.ClassFile.FieldType.int) [((0 : Nat), (8 : Nat), (11 : Nat), (22 : Nat))]) ∈ gt := gtn (tb3 100 rfl) rfl
theorem kw_602 : (Jvm.Cond.methodLink "WearHoursLaw" (55 : Nat) ({ cls := "WearHours", name := "cost", desc := "()I" } : Jvm.MethodName)) ∈ gt := gtn (tb3 101 rfl) rfl
theorem kw_603 : (Jvm.Cond.instanceMethod ({ cls := "WearHours", name := "cost", desc := "()I" } : Jvm.MethodName)) ∈ gt := gtn (tb3 102 rfl) rfl
theorem kw_604 : (Jvm.Cond.selects "WearHours" ({ cls := "WearHours", name := "cost", desc := "()I" } : Jvm.MethodName) ({ cls := "WearHours", name := "cost", desc := "()I" } : Jvm.MethodName)) ∈ gt := gtn (tb3 103 rfl) rfl
theorem kw_605 : (Jvm.Cond.code ({ cls := "WearHours", name := "cost", desc := "()I" } : Jvm.MethodName) prog_1_method_15_code (1 : Nat) (Option.some Jvm.ClassFile.FieldType.int)) ∈ gt := gtn (tb3 104 rfl) rfl
theorem kw_606 : (Jvm.Cond.methodLink "WearHoursLaw" (127 : Nat) ({ cls := "WearHoursLaw", name := "done", desc := "(LWearHours;[J)I" } : Jvm.MethodName)) ∈ gt := gtn (tb3 105 rfl) rfl
theorem kw_607 : (Jvm.Cond.static ({ cls := "WearHoursLaw", name := "done", desc := "(LWearHours;[J)I" } : Jvm.MethodName)) ∈ gt := gtn (tb3 106 rfl) rfl
theorem kw_608 : (Jvm.Cond.codeWith ({ cls := "WearHoursLaw", name := "done", desc := "(LWearHours;[J)I" } : Jvm.MethodName) method_15_code (3 : Nat) (Option.some Jvm.ClassFile.FieldType.int) [((0 : Nat), (8 : Nat), (11 : Nat), (22 : Nat))]) ∈ gt := gtn (tb3 107 rfl) rfl
theorem kw_609 : (Jvm.Cond.methodLink "WearHoursLaw" (59 : Nat) ({ cls := "WearHours", name := "done", desc := "()I" } : Jvm.MethodName)) ∈ gt := gtn (tb3 108 rfl) rfl
theorem kw_610 : (Jvm.Cond.instanceMethod ({ cls := "WearHours", name := "done", desc := "()I" } : Jvm.MethodName)) ∈ gt := gtn (tb3 109 rfl) rfl
theorem kw_611 : (Jvm.Cond.selects "WearHours" ({ cls := "WearHours", name := "done", desc := "()I" } : Jvm.MethodName) ({ cls := "WearHours", name := "done", desc := "()I" } : Jvm.MethodName)) ∈ gt := gtn (tb3 110 rfl) rfl
theorem kw_612 : (Jvm.Cond.code ({ cls := "WearHours", name := "done", desc := "()I" } : Jvm.MethodName) prog_1_method_16_code (4 : Nat) (Option.some Jvm.ClassFile.FieldType.int)) ∈ gt := gtn (tb3 111 rfl) rfl
theorem kw_613 : (Jvm.Cond.methodLink "WearHours" (209 : Nat) ({ cls := "WearHours$Repair", name := "isPlaced", desc := "()Z" } : Jvm.MethodName)) ∈ gt := gtn (tb3 112 rfl) rfl
theorem kw_614 : (Jvm.Cond.methodLink "WearHours" (218 : Nat) ({ cls := "WearHours$Thing", name := "mend", desc := "()V" } : Jvm.MethodName)) ∈ gt := gtn (tb3 113 rfl) rfl
theorem kw_615 : (Jvm.Cond.instanceMethod ({ cls := "WearHours$Thing", name := "mend", desc := "()V" } : Jvm.MethodName)) ∈ gt := gtn (tb3 114 rfl) rfl
theorem kw_616 : (Jvm.Cond.selects "WearHours$Thing" ({ cls := "WearHours$Thing", name := "mend", desc := "()V" } : Jvm.MethodName) ({ cls := "WearHours$Thing", name := "mend", desc := "()V" } : Jvm.MethodName)) ∈ gt := gtn (tb3 115 rfl) rfl
theorem kw_617 : (Jvm.Cond.code ({ cls := "WearHours$Thing", name := "mend", desc := "()V" } : Jvm.MethodName) prog_6_method_6_code (1 : Nat) (Option.none : Option Jvm.ClassFile.FieldType)) ∈ gt := gtn (tb3 116 rfl) rfl
theorem kw_618 : (Jvm.Cond.methodLink "WearHoursLaw" (130 : Nat) ({ cls := "WearHoursLaw", name := "spare", desc := "(LWearHours;II[J)I" } : Jvm.MethodName)) ∈ gt := gtn (tb3 117 rfl) rfl
theorem kw_619 : (Jvm.Cond.static ({ cls := "WearHoursLaw", name := "spare", desc := "(LWearHours;II[J)I" } : Jvm.MethodName)) ∈ gt := gtn (tb3 118 rfl) rfl
theorem kw_620 : (Jvm.Cond.codeWith ({ cls := "WearHoursLaw", name := "spare", desc := "(LWearHours;II[J)I" } : Jvm.MethodName) method_16_code (5 : Nat) (Option.some Jvm.ClassFile.FieldType.int) [((0 : Nat), (10 : Nat), (13 : Nat), (20 : Nat)), ((0 : Nat), (10 : Nat), (17 : Nat), (13 : Nat)), ((0 : Nat), (10 : Nat), (21 : Nat), (15 : Nat))]) ∈ gt := gtn (tb3 119 rfl) rfl
theorem kw_621 : (Jvm.Cond.methodLink "WearHoursLaw" (62 : Nat) ({ cls := "WearHours", name := "spare", desc := "(II)I" } : Jvm.MethodName)) ∈ gt := gtn (tb3 120 rfl) rfl
theorem kw_622 : (Jvm.Cond.instanceMethod ({ cls := "WearHours", name := "spare", desc := "(II)I" } : Jvm.MethodName)) ∈ gt := gtn (tb3 121 rfl) rfl
theorem kw_623 : (Jvm.Cond.selects "WearHours" ({ cls := "WearHours", name := "spare", desc := "(II)I" } : Jvm.MethodName) ({ cls := "WearHours", name := "spare", desc := "(II)I" } : Jvm.MethodName)) ∈ gt := gtn (tb3 122 rfl) rfl
theorem kw_624 : (Jvm.Cond.code ({ cls := "WearHours", name := "spare", desc := "(II)I" } : Jvm.MethodName) prog_1_method_17_code (3 : Nat) (Option.some Jvm.ClassFile.FieldType.int)) ∈ gt := gtn (tb3 123 rfl) rfl
theorem kw_628 : (Jvm.Cond.classLink "WearHoursLaw" (66 : Nat) "WearHoursModel") ∈ gt := gtn (tb3 127 rfl) rfl
theorem kw_629 : (Jvm.Cond.instantiable "WearHoursModel" (32 : Nat)) ∈ gt := gtn (tb3 128 rfl) rfl
theorem kw_630 : (Jvm.Cond.methodLink "WearHoursLaw" (68 : Nat) ({ cls := "WearHoursModel", name := "<init>", desc := "()V" } : Jvm.MethodName)) ∈ gt := gtn (tb3 129 rfl) rfl
theorem kw_631 : (Jvm.Cond.instanceMethod ({ cls := "WearHoursModel", name := "<init>", desc := "()V" } : Jvm.MethodName)) ∈ gt := gtn (tb3 130 rfl) rfl
theorem kw_632 : (Jvm.Cond.code ({ cls := "WearHoursModel", name := "<init>", desc := "()V" } : Jvm.MethodName) prog_9_method_1_code (1 : Nat) (Option.none : Option Jvm.ClassFile.FieldType)) ∈ gt := gtn (tb3 131 rfl) rfl
theorem kw_633 : (Jvm.Cond.methodLink "WearHoursModel" (1 : Nat) ({ cls := "java/lang/Object", name := "<init>", desc := "()V" } : Jvm.MethodName)) ∈ gt := gtn (tb3 132 rfl) rfl
theorem kw_634 : (Jvm.Cond.fieldLink "WearHoursModel" (88 : Nat) "WearHoursModel" "thrown" "I") ∈ gt := gtn (tb3 133 rfl) rfl
theorem kw_635 : (Jvm.Cond.fieldLink "WearHoursModel" (7 : Nat) "WearHoursModel" "seed" "J") ∈ gt := gtn (tb3 134 rfl) rfl
theorem kw_636 : (Jvm.Cond.fieldLink "WearHoursModel" (91 : Nat) "WearHoursModel" "things" "I") ∈ gt := gtn (tb3 135 rfl) rfl
theorem kw_637 : (Jvm.Cond.fieldLink "WearHoursModel" (13 : Nat) "WearHoursModel" "life" "[I") ∈ gt := gtn (tb3 136 rfl) rfl
theorem kw_638 : (Jvm.Cond.fieldLink "WearHoursModel" (17 : Nat) "WearHoursModel" "bound" "[I") ∈ gt := gtn (tb3 137 rfl) rfl
theorem kw_639 : (Jvm.Cond.fieldLink "WearHoursModel" (20 : Nat) "WearHoursModel" "used" "[I") ∈ gt := gtn (tb3 138 rfl) rfl
theorem kw_640 : (Jvm.Cond.fieldLink "WearHoursModel" (23 : Nat) "WearHoursModel" "closed" "[Z") ∈ gt := gtn (tb3 139 rfl) rfl
theorem kw_641 : (Jvm.Cond.fieldLink "WearHoursModel" (27 : Nat) "WearHoursModel" "history" "[I") ∈ gt := gtn (tb3 140 rfl) rfl
theorem kw_642 : (Jvm.Cond.fieldLink "WearHoursModel" (130 : Nat) "WearHoursModel" "gaps" "I") ∈ gt := gtn (tb3 141 rfl) rfl
theorem kw_643 : (Jvm.Cond.fieldLink "WearHoursModel" (30 : Nat) "WearHoursModel" "gapFrom" "[I") ∈ gt := gtn (tb3 142 rfl) rfl
theorem kw_644 : (Jvm.Cond.fieldLink "WearHoursModel" (33 : Nat) "WearHoursModel" "gapTo" "[I") ∈ gt := gtn (tb3 143 rfl) rfl
theorem kw_645 : (Jvm.Cond.fieldLink "WearHoursModel" (137 : Nat) "WearHoursModel" "persons" "I") ∈ gt := gtn (tb3 144 rfl) rfl
theorem kw_646 : (Jvm.Cond.fieldLink "WearHoursModel" (36 : Nat) "WearHoursModel" "personSkill" "[I") ∈ gt := gtn (tb3 145 rfl) rfl
theorem kw_647 : (Jvm.Cond.fieldLink "WearHoursModel" (39 : Nat) "WearHoursModel" "personFrom" "[I") ∈ gt := gtn (tb3 146 rfl) rfl
theorem kw_648 : (Jvm.Cond.fieldLink "WearHoursModel" (42 : Nat) "WearHoursModel" "personTo" "[I") ∈ gt := gtn (tb3 147 rfl) rfl
theorem kw_649 : (Jvm.Cond.fieldLink "WearHoursModel" (140 : Nat) "WearHoursModel" "repairs" "I") ∈ gt := gtn (tb3 148 rfl) rfl
theorem kw_650 : (Jvm.Cond.fieldLink "WearHoursModel" (45 : Nat) "WearHoursModel" "thing" "[I") ∈ gt := gtn (tb3 149 rfl) rfl
theorem kw_651 : (Jvm.Cond.fieldLink "WearHoursModel" (48 : Nat) "WearHoursModel" "hours" "[I") ∈ gt := gtn (tb3 150 rfl) rfl
theorem kw_652 : (Jvm.Cond.fieldLink "WearHoursModel" (51 : Nat) "WearHoursModel" "skill" "[I") ∈ gt := gtn (tb3 151 rfl) rfl
theorem kw_653 : (Jvm.Cond.fieldLink "WearHoursModel" (54 : Nat) "WearHoursModel" "waiting" "[I") ∈ gt := gtn (tb3 152 rfl) rfl
theorem kw_654 : (Jvm.Cond.fieldLink "WearHoursModel" (57 : Nat) "WearHoursModel" "rest" "I") ∈ gt := gtn (tb3 153 rfl) rfl
theorem kw_655 : (Jvm.Cond.fieldLink "WearHoursModel" (61 : Nat) "WearHoursModel" "failing" "I") ∈ gt := gtn (tb3 154 rfl) rfl
theorem kw_656 : (Jvm.Cond.fieldLink "WearHoursModel" (64 : Nat) "WearHoursModel" "spares" "[I") ∈ gt := gtn (tb3 155 rfl) rfl
theorem kw_657 : (Jvm.Cond.fieldLink "WearHoursModel" (133 : Nat) "WearHoursModel" "planned" "Z") ∈ gt := gtn (tb3 156 rfl) rfl
theorem kw_658 : (Jvm.Cond.fieldLink "WearHoursModel" (147 : Nat) "WearHoursModel" "planCost" "I") ∈ gt := gtn (tb3 157 rfl) rfl
theorem kw_659 : (Jvm.Cond.fieldLink "WearHoursModel" (67 : Nat) "WearHoursModel" "planHour" "[I") ∈ gt := gtn (tb3 158 rfl) rfl
theorem kw_660 : (Jvm.Cond.fieldLink "WearHoursModel" (70 : Nat) "WearHoursModel" "planChoice" "[I") ∈ gt := gtn (tb3 159 rfl) rfl
theorem kw_661 : (Jvm.Cond.fieldLink "WearHoursModel" (73 : Nat) "WearHoursModel" "busyPerson" "[I") ∈ gt := gtn (tb3 160 rfl) rfl
theorem kw_662 : (Jvm.Cond.fieldLink "WearHoursModel" (76 : Nat) "WearHoursModel" "busyThing" "[I") ∈ gt := gtn (tb3 161 rfl) rfl
theorem kw_663 : (Jvm.Cond.fieldLink "WearHoursModel" (79 : Nat) "WearHoursModel" "cost" "[I") ∈ gt := gtn (tb3 162 rfl) rfl
theorem kw_664 : (Jvm.Cond.fieldLink "WearHoursModel" (82 : Nat) "WearHoursModel" "choice" "[I") ∈ gt := gtn (tb3 163 rfl) rfl
theorem kw_665 : (Jvm.Cond.fieldLink "WearHoursModel" (85 : Nat) "WearHoursModel" "hour" "[I") ∈ gt := gtn (tb3 164 rfl) rfl
theorem kw_666 : (Jvm.Cond.lays "WearHoursModel" "WearHoursModel" "thrown" "I") ∈ gt := gtn (tb3 165 rfl) rfl
theorem kw_668 : (Jvm.Cond.lays "WearHoursModel" "WearHoursModel" "seed" "J") ∈ gt := gtn (tb3 167 rfl) rfl
theorem kw_670 : (Jvm.Cond.lays "WearHoursModel" "WearHoursModel" "things" "I") ∈ gt := gtn (tb3 169 rfl) rfl
theorem kw_672 : (Jvm.Cond.laysFinal "WearHoursModel" "WearHoursModel" "life" "[I") ∈ gt := gtn (tb3 171 rfl) rfl
theorem kw_674 : (Jvm.Cond.laysFinal "WearHoursModel" "WearHoursModel" "bound" "[I") ∈ gt := gtn (tb3 173 rfl) rfl
theorem kw_676 : (Jvm.Cond.laysFinal "WearHoursModel" "WearHoursModel" "used" "[I") ∈ gt := gtn (tb3 175 rfl) rfl
theorem kw_678 : (Jvm.Cond.laysFinal "WearHoursModel" "WearHoursModel" "closed" "[Z") ∈ gt := gtn (tb3 177 rfl) rfl
theorem kw_680 : (Jvm.Cond.laysFinal "WearHoursModel" "WearHoursModel" "history" "[I") ∈ gt := gtn (tb3 179 rfl) rfl
theorem kw_682 : (Jvm.Cond.lays "WearHoursModel" "WearHoursModel" "gaps" "I") ∈ gt := gtn (tb3 181 rfl) rfl
theorem kw_684 : (Jvm.Cond.laysFinal "WearHoursModel" "WearHoursModel" "gapFrom" "[I") ∈ gt := gtn (tb3 183 rfl) rfl
theorem kw_686 : (Jvm.Cond.laysFinal "WearHoursModel" "WearHoursModel" "gapTo" "[I") ∈ gt := gtn (tb3 185 rfl) rfl
theorem kw_688 : (Jvm.Cond.lays "WearHoursModel" "WearHoursModel" "persons" "I") ∈ gt := gtn (tb3 187 rfl) rfl
theorem kw_690 : (Jvm.Cond.laysFinal "WearHoursModel" "WearHoursModel" "personSkill" "[I") ∈ gt := gtn (tb3 189 rfl) rfl
theorem kw_692 : (Jvm.Cond.laysFinal "WearHoursModel" "WearHoursModel" "personFrom" "[I") ∈ gt := gtn (tb3 191 rfl) rfl
theorem kw_694 : (Jvm.Cond.laysFinal "WearHoursModel" "WearHoursModel" "personTo" "[I") ∈ gt := gtn (tb3 193 rfl) rfl
theorem kw_696 : (Jvm.Cond.lays "WearHoursModel" "WearHoursModel" "repairs" "I") ∈ gt := gtn (tb3 195 rfl) rfl
theorem kw_698 : (Jvm.Cond.laysFinal "WearHoursModel" "WearHoursModel" "thing" "[I") ∈ gt := gtn (tb3 197 rfl) rfl
theorem kw_700 : (Jvm.Cond.laysFinal "WearHoursModel" "WearHoursModel" "hours" "[I") ∈ gt := gtn (tb3 199 rfl) rfl
theorem kw_702 : (Jvm.Cond.laysFinal "WearHoursModel" "WearHoursModel" "skill" "[I") ∈ gt := gtn (tb3 201 rfl) rfl
theorem kw_704 : (Jvm.Cond.laysFinal "WearHoursModel" "WearHoursModel" "waiting" "[I") ∈ gt := gtn (tb3 203 rfl) rfl
theorem kw_706 : (Jvm.Cond.lays "WearHoursModel" "WearHoursModel" "rest" "I") ∈ gt := gtn (tb3 205 rfl) rfl
theorem kw_708 : (Jvm.Cond.lays "WearHoursModel" "WearHoursModel" "failing" "I") ∈ gt := gtn (tb3 207 rfl) rfl
theorem kw_710 : (Jvm.Cond.laysFinal "WearHoursModel" "WearHoursModel" "spares" "[I") ∈ gt := gtn (tb3 209 rfl) rfl
theorem kw_712 : (Jvm.Cond.lays "WearHoursModel" "WearHoursModel" "planned" "Z") ∈ gt := gtn (tb3 211 rfl) rfl
theorem kw_714 : (Jvm.Cond.lays "WearHoursModel" "WearHoursModel" "planCost" "I") ∈ gt := gtn (tb3 213 rfl) rfl
theorem kw_716 : (Jvm.Cond.laysFinal "WearHoursModel" "WearHoursModel" "planHour" "[I") ∈ gt := gtn (tb3 215 rfl) rfl
theorem kw_718 : (Jvm.Cond.laysFinal "WearHoursModel" "WearHoursModel" "planChoice" "[I") ∈ gt := gtn (tb3 217 rfl) rfl
theorem kw_720 : (Jvm.Cond.laysFinal "WearHoursModel" "WearHoursModel" "busyPerson" "[I") ∈ gt := gtn (tb3 219 rfl) rfl
theorem kw_722 : (Jvm.Cond.laysFinal "WearHoursModel" "WearHoursModel" "busyThing" "[I") ∈ gt := gtn (tb3 221 rfl) rfl
theorem kw_724 : (Jvm.Cond.laysFinal "WearHoursModel" "WearHoursModel" "cost" "[I") ∈ gt := gtn (tb3 223 rfl) rfl
theorem kw_726 : (Jvm.Cond.laysFinal "WearHoursModel" "WearHoursModel" "choice" "[I") ∈ gt := gtn (tb3 225 rfl) rfl
theorem kw_728 : (Jvm.Cond.laysFinal "WearHoursModel" "WearHoursModel" "hour" "[I") ∈ gt := gtn (tb3 227 rfl) rfl
theorem kw_731 : (Jvm.Cond.arrayClass Jvm.ClassFile.FieldType.boolean) ∈ gt := gtn (tb3 230 rfl) rfl
theorem kw_732 : (Jvm.Cond.methodLink "WearHoursLaw" (82 : Nat) ({ cls := "WearHoursModel", name := "thrown", desc := "()I" } : Jvm.MethodName)) ∈ gt := gtn (tb3 231 rfl) rfl
theorem kw_733 : (Jvm.Cond.instanceMethod ({ cls := "WearHoursModel", name := "thrown", desc := "()I" } : Jvm.MethodName)) ∈ gt := gtn (tb3 232 rfl) rfl
theorem kw_734 : (Jvm.Cond.selects "WearHoursModel" ({ cls := "WearHoursModel", name := "thrown", desc := "()I" } : Jvm.MethodName) ({ cls := "WearHoursModel", name := "thrown", desc := "()I" } : Jvm.MethodName)) ∈ gt := gtn (tb3 233 rfl) rfl
theorem kw_735 : (Jvm.Cond.code ({ cls := "WearHoursModel", name := "thrown", desc := "()I" } : Jvm.MethodName) prog_9_method_2_code (1 : Nat) (Option.some Jvm.ClassFile.FieldType.int)) ∈ gt := gtn (tb3 234 rfl) rfl
theorem kw_736 : (Jvm.Cond.methodLink "WearHoursLaw" (75 : Nat) ({ cls := "WearHoursModel", name := "seed", desc := "(J)V" } : Jvm.MethodName)) ∈ gt := gtn (tb3 235 rfl) rfl
theorem kw_737 : (Jvm.Cond.instanceMethod ({ cls := "WearHoursModel", name := "seed", desc := "(J)V" } : Jvm.MethodName)) ∈ gt := gtn (tb3 236 rfl) rfl
theorem kw_738 : (Jvm.Cond.selects "WearHoursModel" ({ cls := "WearHoursModel", name := "seed", desc := "(J)V" } : Jvm.MethodName) ({ cls := "WearHoursModel", name := "seed", desc := "(J)V" } : Jvm.MethodName)) ∈ gt := gtn (tb3 237 rfl) rfl
theorem kw_739 : (Jvm.Cond.code ({ cls := "WearHoursModel", name := "seed", desc := "(J)V" } : Jvm.MethodName) prog_9_method_6_code (3 : Nat) (Option.none : Option Jvm.ClassFile.FieldType)) ∈ gt := gtn (tb3 238 rfl) rfl
theorem kw_740 : (Jvm.Cond.methodLink "WearHoursLaw" (81 : Nat) ({ cls := "WearHoursModel", name := "thing", desc := "(II)I" } : Jvm.MethodName)) ∈ gt := gtn (tb3 239 rfl) rfl
theorem kw_741 : (Jvm.Cond.instanceMethod ({ cls := "WearHoursModel", name := "thing", desc := "(II)I" } : Jvm.MethodName)) ∈ gt := gtn (tb4 0 rfl) rfl
theorem kw_742 : (Jvm.Cond.selects "WearHoursModel" ({ cls := "WearHoursModel", name := "thing", desc := "(II)I" } : Jvm.MethodName) ({ cls := "WearHoursModel", name := "thing", desc := "(II)I" } : Jvm.MethodName)) ∈ gt := gtn (tb4 1 rfl) rfl
theorem kw_743 : (Jvm.Cond.code ({ cls := "WearHoursModel", name := "thing", desc := "(II)I" } : Jvm.MethodName) prog_9_method_7_code (4 : Nat) (Option.some Jvm.ClassFile.FieldType.int)) ∈ gt := gtn (tb4 2 rfl) rfl
theorem kw_744 : (Jvm.Cond.constant "WearHoursModel" (98 : Nat) (1000000 : Int32)) ∈ gt := gtn (tb4 3 rfl) rfl
theorem kw_745 : (Jvm.Cond.methodLink "WearHoursModel" (94 : Nat) ({ cls := "WearHoursModel", name := "in", desc := "(III)Z" } : Jvm.MethodName)) ∈ gt := gtn (tb4 4 rfl) rfl
theorem kw_746 : (Jvm.Cond.static ({ cls := "WearHoursModel", name := "in", desc := "(III)Z" } : Jvm.MethodName)) ∈ gt := gtn (tb4 5 rfl) rfl
theorem kw_747 : (Jvm.Cond.code ({ cls := "WearHoursModel", name := "in", desc := "(III)Z" } : Jvm.MethodName) prog_9_method_3_code (3 : Nat) (Option.some Jvm.ClassFile.FieldType.boolean)) ∈ gt := gtn (tb4 6 rfl) rfl
theorem kw_748 : (Jvm.Cond.methodLink "WearHoursModel" (99 : Nat) ({ cls := "WearHoursModel", name := "goes", desc := "(ZZZ)Z" } : Jvm.MethodName)) ∈ gt := gtn (tb4 7 rfl) rfl
theorem kw_750 : (Jvm.Cond.instanceMethod ({ cls := "WearHoursModel", name := "goes", desc := "(ZZZ)Z" } : Jvm.MethodName)) ∈ gt := gtn (tb4 9 rfl) rfl
theorem kw_751 : (Jvm.Cond.code ({ cls := "WearHoursModel", name := "goes", desc := "(ZZZ)Z" } : Jvm.MethodName) prog_9_method_4_code (4 : Nat) (Option.some Jvm.ClassFile.FieldType.boolean)) ∈ gt := gtn (tb4 10 rfl) rfl
theorem kw_752 : (Jvm.Cond.methodLink "WearHoursLaw" (87 : Nat) ({ cls := "WearHoursModel", name := "use", desc := "(II)I" } : Jvm.MethodName)) ∈ gt := gtn (tb4 11 rfl) rfl
theorem kw_753 : (Jvm.Cond.instanceMethod ({ cls := "WearHoursModel", name := "use", desc := "(II)I" } : Jvm.MethodName)) ∈ gt := gtn (tb4 12 rfl) rfl
theorem kw_754 : (Jvm.Cond.selects "WearHoursModel" ({ cls := "WearHoursModel", name := "use", desc := "(II)I" } : Jvm.MethodName) ({ cls := "WearHoursModel", name := "use", desc := "(II)I" } : Jvm.MethodName)) ∈ gt := gtn (tb4 13 rfl) rfl
theorem kw_755 : (Jvm.Cond.code ({ cls := "WearHoursModel", name := "use", desc := "(II)I" } : Jvm.MethodName) prog_9_method_10_code (4 : Nat) (Option.some Jvm.ClassFile.FieldType.int)) ∈ gt := gtn (tb4 14 rfl) rfl
theorem kw_756 : (Jvm.Cond.methodLink "WearHoursModel" (103 : Nat) ({ cls := "WearHoursModel", name := "isThing", desc := "(I)Z" } : Jvm.MethodName)) ∈ gt := gtn (tb4 15 rfl) rfl
theorem kw_758 : (Jvm.Cond.instanceMethod ({ cls := "WearHoursModel", name := "isThing", desc := "(I)Z" } : Jvm.MethodName)) ∈ gt := gtn (tb4 17 rfl) rfl
theorem kw_759 : (Jvm.Cond.code ({ cls := "WearHoursModel", name := "isThing", desc := "(I)Z" } : Jvm.MethodName) prog_9_method_5_code (2 : Nat) (Option.some Jvm.ClassFile.FieldType.boolean)) ∈ gt := gtn (tb4 18 rfl) rfl
theorem kw_760 : (Jvm.Cond.methodLink "WearHoursModel" (107 : Nat) ({ cls := "WearHoursModel", name := "isBarred", desc := "(I)Z" } : Jvm.MethodName)) ∈ gt := gtn (tb4 19 rfl) rfl
theorem kw_762 : (Jvm.Cond.instanceMethod ({ cls := "WearHoursModel", name := "isBarred", desc := "(I)Z" } : Jvm.MethodName)) ∈ gt := gtn (tb4 21 rfl) rfl
theorem kw_763 : (Jvm.Cond.code ({ cls := "WearHoursModel", name := "isBarred", desc := "(I)Z" } : Jvm.MethodName) prog_9_method_9_code (2 : Nat) (Option.some Jvm.ClassFile.FieldType.boolean)) ∈ gt := gtn (tb4 22 rfl) rfl
theorem kw_764 : (Jvm.Cond.methodLink "WearHoursModel" (110 : Nat) ({ cls := "WearHoursModel", name := "keep", desc := "(II)V" } : Jvm.MethodName)) ∈ gt := gtn (tb4 23 rfl) rfl
theorem kw_766 : (Jvm.Cond.instanceMethod ({ cls := "WearHoursModel", name := "keep", desc := "(II)V" } : Jvm.MethodName)) ∈ gt := gtn (tb4 25 rfl) rfl
theorem kw_767 : (Jvm.Cond.code ({ cls := "WearHoursModel", name := "keep", desc := "(II)V" } : Jvm.MethodName) prog_9_method_8_code (4 : Nat) (Option.none : Option Jvm.ClassFile.FieldType)) ∈ gt := gtn (tb4 26 rfl) rfl
theorem kw_768 : (Jvm.Cond.methodLink "WearHoursLaw" (90 : Nat) ({ cls := "WearHoursModel", name := "told", desc := "(II)I" } : Jvm.MethodName)) ∈ gt := gtn (tb4 27 rfl) rfl
theorem kw_769 : (Jvm.Cond.instanceMethod ({ cls := "WearHoursModel", name := "told", desc := "(II)I" } : Jvm.MethodName)) ∈ gt := gtn (tb4 28 rfl) rfl
theorem kw_770 : (Jvm.Cond.selects "WearHoursModel" ({ cls := "WearHoursModel", name := "told", desc := "(II)I" } : Jvm.MethodName) ({ cls := "WearHoursModel", name := "told", desc := "(II)I" } : Jvm.MethodName)) ∈ gt := gtn (tb4 29 rfl) rfl
theorem kw_771 : (Jvm.Cond.code ({ cls := "WearHoursModel", name := "told", desc := "(II)I" } : Jvm.MethodName) prog_9_method_11_code (3 : Nat) (Option.some Jvm.ClassFile.FieldType.int)) ∈ gt := gtn (tb4 30 rfl) rfl
theorem kw_772 : (Jvm.Cond.methodLink "WearHoursLaw" (93 : Nat) ({ cls := "WearHoursModel", name := "left", desc := "(II)I" } : Jvm.MethodName)) ∈ gt := gtn (tb4 31 rfl) rfl
theorem kw_773 : (Jvm.Cond.instanceMethod ({ cls := "WearHoursModel", name := "left", desc := "(II)I" } : Jvm.MethodName)) ∈ gt := gtn (tb4 32 rfl) rfl
theorem kw_774 : (Jvm.Cond.selects "WearHoursModel" ({ cls := "WearHoursModel", name := "left", desc := "(II)I" } : Jvm.MethodName) ({ cls := "WearHoursModel", name := "left", desc := "(II)I" } : Jvm.MethodName)) ∈ gt := gtn (tb4 33 rfl) rfl
theorem kw_775 : (Jvm.Cond.code ({ cls := "WearHoursModel", name := "left", desc := "(II)I" } : Jvm.MethodName) prog_9_method_13_code (7 : Nat) (Option.some Jvm.ClassFile.FieldType.int)) ∈ gt := gtn (tb4 34 rfl) rfl
theorem kw_776 : (Jvm.Cond.methodLink "WearHoursModel" (120 : Nat) ({ cls := "WearHoursModel", name := "number", desc := "(I)J" } : Jvm.MethodName)) ∈ gt := gtn (tb4 35 rfl) rfl
theorem kw_778 : (Jvm.Cond.instanceMethod ({ cls := "WearHoursModel", name := "number", desc := "(I)J" } : Jvm.MethodName)) ∈ gt := gtn (tb4 37 rfl) rfl
theorem kw_779 : (Jvm.Cond.code ({ cls := "WearHoursModel", name := "number", desc := "(I)J" } : Jvm.MethodName) prog_9_method_12_code (4 : Nat) (Option.some Jvm.ClassFile.FieldType.long)) ∈ gt := gtn (tb4 38 rfl) rfl
theorem kw_780 : (Jvm.Cond.constantLong "WearHoursModel" (114 : Nat) (-7046029254386353131 : Int64)) ∈ gt := gtn (tb4 39 rfl) rfl
theorem kw_781 : (Jvm.Cond.constantLong "WearHoursModel" (116 : Nat) (-4658895280553007687 : Int64)) ∈ gt := gtn (tb4 40 rfl) rfl
theorem kw_782 : (Jvm.Cond.constantLong "WearHoursModel" (118 : Nat) (-7723592293110705685 : Int64)) ∈ gt := gtn (tb4 41 rfl) rfl
theorem kw_783 : (Jvm.Cond.constantLong "WearHoursModel" (124 : Nat) (101 : Int64)) ∈ gt := gtn (tb4 42 rfl) rfl
theorem kw_784 : (Jvm.Cond.methodLink "WearHoursLaw" (97 : Nat) ({ cls := "WearHoursModel", name := "permit", desc := "(IZ)V" } : Jvm.MethodName)) ∈ gt := gtn (tb4 43 rfl) rfl
theorem kw_785 : (Jvm.Cond.instanceMethod ({ cls := "WearHoursModel", name := "permit", desc := "(IZ)V" } : Jvm.MethodName)) ∈ gt := gtn (tb4 44 rfl) rfl
theorem kw_786 : (Jvm.Cond.selects "WearHoursModel" ({ cls := "WearHoursModel", name := "permit", desc := "(IZ)V" } : Jvm.MethodName) ({ cls := "WearHoursModel", name := "permit", desc := "(IZ)V" } : Jvm.MethodName)) ∈ gt := gtn (tb4 45 rfl) rfl
theorem kw_787 : (Jvm.Cond.code ({ cls := "WearHoursModel", name := "permit", desc := "(IZ)V" } : Jvm.MethodName) prog_9_method_14_code (4 : Nat) (Option.none : Option Jvm.ClassFile.FieldType)) ∈ gt := gtn (tb4 46 rfl) rfl
theorem kw_788 : (Jvm.Cond.methodLink "WearHoursLaw" (100 : Nat) ({ cls := "WearHoursModel", name := "history", desc := "(II)I" } : Jvm.MethodName)) ∈ gt := gtn (tb4 47 rfl) rfl
theorem kw_789 : (Jvm.Cond.instanceMethod ({ cls := "WearHoursModel", name := "history", desc := "(II)I" } : Jvm.MethodName)) ∈ gt := gtn (tb4 48 rfl) rfl
theorem kw_790 : (Jvm.Cond.selects "WearHoursModel" ({ cls := "WearHoursModel", name := "history", desc := "(II)I" } : Jvm.MethodName) ({ cls := "WearHoursModel", name := "history", desc := "(II)I" } : Jvm.MethodName)) ∈ gt := gtn (tb4 49 rfl) rfl
theorem kw_791 : (Jvm.Cond.code ({ cls := "WearHoursModel", name := "history", desc := "(II)I" } : Jvm.MethodName) prog_9_method_15_code (3 : Nat) (Option.some Jvm.ClassFile.FieldType.int)) ∈ gt := gtn (tb4 50 rfl) rfl
theorem kw_792 : (Jvm.Cond.methodLink "WearHoursLaw" (103 : Nat) ({ cls := "WearHoursModel", name := "gap", desc := "(II)I" } : Jvm.MethodName)) ∈ gt := gtn (tb4 51 rfl) rfl
theorem kw_793 : (Jvm.Cond.instanceMethod ({ cls := "WearHoursModel", name := "gap", desc := "(II)I" } : Jvm.MethodName)) ∈ gt := gtn (tb4 52 rfl) rfl
theorem kw_794 : (Jvm.Cond.selects "WearHoursModel" ({ cls := "WearHoursModel", name := "gap", desc := "(II)I" } : Jvm.MethodName) ({ cls := "WearHoursModel", name := "gap", desc := "(II)I" } : Jvm.MethodName)) ∈ gt := gtn (tb4 53 rfl) rfl
theorem kw_795 : (Jvm.Cond.code ({ cls := "WearHoursModel", name := "gap", desc := "(II)I" } : Jvm.MethodName) prog_9_method_17_code (3 : Nat) (Option.some Jvm.ClassFile.FieldType.int)) ∈ gt := gtn (tb4 54 rfl) rfl
theorem kw_796 : (Jvm.Cond.methodLink "WearHoursModel" (126 : Nat) ({ cls := "WearHoursModel", name := "areHours", desc := "(II)Z" } : Jvm.MethodName)) ∈ gt := gtn (tb4 55 rfl) rfl
theorem kw_797 : (Jvm.Cond.static ({ cls := "WearHoursModel", name := "areHours", desc := "(II)Z" } : Jvm.MethodName)) ∈ gt := gtn (tb4 56 rfl) rfl
theorem kw_798 : (Jvm.Cond.code ({ cls := "WearHoursModel", name := "areHours", desc := "(II)Z" } : Jvm.MethodName) prog_9_method_16_code (2 : Nat) (Option.some Jvm.ClassFile.FieldType.boolean)) ∈ gt := gtn (tb4 57 rfl) rfl
theorem kw_799 : (Jvm.Cond.methodLink "WearHoursLaw" (107 : Nat) ({ cls := "WearHoursModel", name := "person", desc := "(III)I" } : Jvm.MethodName)) ∈ gt := gtn (tb4 58 rfl) rfl
theorem kw_800 : (Jvm.Cond.instanceMethod ({ cls := "WearHoursModel", name := "person", desc := "(III)I" } : Jvm.MethodName)) ∈ gt := gtn (tb4 59 rfl) rfl
theorem kw_801 : (Jvm.Cond.selects "WearHoursModel" ({ cls := "WearHoursModel", name := "person", desc := "(III)I" } : Jvm.MethodName) ({ cls := "WearHoursModel", name := "person", desc := "(III)I" } : Jvm.MethodName)) ∈ gt := gtn (tb4 60 rfl) rfl
theorem kw_802 : (Jvm.Cond.code ({ cls := "WearHoursModel", name := "person", desc := "(III)I" } : Jvm.MethodName) prog_9_method_18_code (4 : Nat) (Option.some Jvm.ClassFile.FieldType.int)) ∈ gt := gtn (tb4 61 rfl) rfl
theorem kw_803 : (Jvm.Cond.methodLink "WearHoursLaw" (111 : Nat) ({ cls := "WearHoursModel", name := "repair", desc := "(IIII)I" } : Jvm.MethodName)) ∈ gt := gtn (tb4 62 rfl) rfl
theorem kw_804 : (Jvm.Cond.instanceMethod ({ cls := "WearHoursModel", name := "repair", desc := "(IIII)I" } : Jvm.MethodName)) ∈ gt := gtn (tb4 63 rfl) rfl
theorem kw_805 : (Jvm.Cond.selects "WearHoursModel" ({ cls := "WearHoursModel", name := "repair", desc := "(IIII)I" } : Jvm.MethodName) ({ cls := "WearHoursModel", name := "repair", desc := "(IIII)I" } : Jvm.MethodName)) ∈ gt := gtn (tb4 64 rfl) rfl
theorem kw_806 : (Jvm.Cond.code ({ cls := "WearHoursModel", name := "repair", desc := "(IIII)I" } : Jvm.MethodName) prog_9_method_19_code (5 : Nat) (Option.some Jvm.ClassFile.FieldType.int)) ∈ gt := gtn (tb4 65 rfl) rfl
theorem kw_807 : (Jvm.Cond.methodLink "WearHoursLaw" (115 : Nat) ({ cls := "WearHoursModel", name := "rules", desc := "(II)V" } : Jvm.MethodName)) ∈ gt := gtn (tb4 66 rfl) rfl
theorem kw_808 : (Jvm.Cond.instanceMethod ({ cls := "WearHoursModel", name := "rules", desc := "(II)V" } : Jvm.MethodName)) ∈ gt := gtn (tb4 67 rfl) rfl
theorem kw_809 : (Jvm.Cond.selects "WearHoursModel" ({ cls := "WearHoursModel", name := "rules", desc := "(II)V" } : Jvm.MethodName) ({ cls := "WearHoursModel", name := "rules", desc := "(II)V" } : Jvm.MethodName)) ∈ gt := gtn (tb4 68 rfl) rfl
theorem kw_810 : (Jvm.Cond.code ({ cls := "WearHoursModel", name := "rules", desc := "(II)V" } : Jvm.MethodName) prog_9_method_20_code (3 : Nat) (Option.none : Option Jvm.ClassFile.FieldType)) ∈ gt := gtn (tb4 69 rfl) rfl
theorem kw_811 : (Jvm.Cond.methodLink "WearHoursLaw" (119 : Nat) ({ cls := "WearHoursModel", name := "plan", desc := "()I" } : Jvm.MethodName)) ∈ gt := gtn (tb4 70 rfl) rfl
theorem kw_812 : (Jvm.Cond.instanceMethod ({ cls := "WearHoursModel", name := "plan", desc := "()I" } : Jvm.MethodName)) ∈ gt := gtn (tb4 71 rfl) rfl
theorem kw_813 : (Jvm.Cond.selects "WearHoursModel" ({ cls := "WearHoursModel", name := "plan", desc := "()I" } : Jvm.MethodName) ({ cls := "WearHoursModel", name := "plan", desc := "()I" } : Jvm.MethodName)) ∈ gt := gtn (tb4 72 rfl) rfl
theorem kw_814 : (Jvm.Cond.code ({ cls := "WearHoursModel", name := "plan", desc := "()I" } : Jvm.MethodName) prog_9_method_24_code (5 : Nat) (Option.some Jvm.ClassFile.FieldType.int)) ∈ gt := gtn (tb4 73 rfl) rfl
theorem kw_815 : (Jvm.Cond.methodLink "WearHoursModel" (150 : Nat) ({ cls := "WearHoursModel", name := "best", desc := "()V" } : Jvm.MethodName)) ∈ gt := gtn (tb4 74 rfl) rfl
theorem kw_817 : (Jvm.Cond.instanceMethod ({ cls := "WearHoursModel", name := "best", desc := "()V" } : Jvm.MethodName)) ∈ gt := gtn (tb4 76 rfl) rfl
theorem kw_818 : (Jvm.Cond.code ({ cls := "WearHoursModel", name := "best", desc := "()V" } : Jvm.MethodName) prog_9_method_25_code (2 : Nat) (Option.none : Option Jvm.ClassFile.FieldType)) ∈ gt := gtn (tb4 77 rfl) rfl
theorem kw_819 : (Jvm.Cond.methodLink "WearHoursModel" (153 : Nat) ({ cls := "WearHoursModel", name := "begins", desc := "(III)I" } : Jvm.MethodName)) ∈ gt := gtn (tb4 78 rfl) rfl
theorem kw_821 : (Jvm.Cond.instanceMethod ({ cls := "WearHoursModel", name := "begins", desc := "(III)I" } : Jvm.MethodName)) ∈ gt := gtn (tb4 80 rfl) rfl
theorem kw_822 : (Jvm.Cond.code ({ cls := "WearHoursModel", name := "begins", desc := "(III)I" } : Jvm.MethodName) prog_9_method_22_code (5 : Nat) (Option.some Jvm.ClassFile.FieldType.int)) ∈ gt := gtn (tb4 81 rfl) rfl
theorem kw_823 : (Jvm.Cond.methodLink "WearHoursModel" (143 : Nat) ({ cls := "WearHoursModel", name := "later", desc := "(II)I" } : Jvm.MethodName)) ∈ gt := gtn (tb4 82 rfl) rfl
theorem kw_824 : (Jvm.Cond.static ({ cls := "WearHoursModel", name := "later", desc := "(II)I" } : Jvm.MethodName)) ∈ gt := gtn (tb4 83 rfl) rfl
theorem kw_825 : (Jvm.Cond.code ({ cls := "WearHoursModel", name := "later", desc := "(II)I" } : Jvm.MethodName) prog_9_method_21_code (2 : Nat) (Option.some Jvm.ClassFile.FieldType.int)) ∈ gt := gtn (tb4 84 rfl) rfl
theorem kw_826 : (Jvm.Cond.methodLink "WearHoursModel" (157 : Nat) ({ cls := "WearHoursModel", name := "take", desc := "(I)V" } : Jvm.MethodName)) ∈ gt := gtn (tb4 85 rfl) rfl
theorem kw_828 : (Jvm.Cond.instanceMethod ({ cls := "WearHoursModel", name := "take", desc := "(I)V" } : Jvm.MethodName)) ∈ gt := gtn (tb4 87 rfl) rfl
theorem kw_829 : (Jvm.Cond.code ({ cls := "WearHoursModel", name := "take", desc := "(I)V" } : Jvm.MethodName) prog_9_method_23_code (3 : Nat) (Option.none : Option Jvm.ClassFile.FieldType)) ∈ gt := gtn (tb4 88 rfl) rfl
theorem kw_830 : (Jvm.Cond.methodLink "WearHoursLaw" (122 : Nat) ({ cls := "WearHoursModel", name := "at", desc := "(II)I" } : Jvm.MethodName)) ∈ gt := gtn (tb4 89 rfl) rfl
theorem kw_831 : (Jvm.Cond.instanceMethod ({ cls := "WearHoursModel", name := "at", desc := "(II)I" } : Jvm.MethodName)) ∈ gt := gtn (tb4 90 rfl) rfl
theorem kw_832 : (Jvm.Cond.selects "WearHoursModel" ({ cls := "WearHoursModel", name := "at", desc := "(II)I" } : Jvm.MethodName) ({ cls := "WearHoursModel", name := "at", desc := "(II)I" } : Jvm.MethodName)) ∈ gt := gtn (tb4 91 rfl) rfl
theorem kw_833 : (Jvm.Cond.code ({ cls := "WearHoursModel", name := "at", desc := "(II)I" } : Jvm.MethodName) prog_9_method_26_code (3 : Nat) (Option.some Jvm.ClassFile.FieldType.int)) ∈ gt := gtn (tb4 92 rfl) rfl
theorem kw_834 : (Jvm.Cond.methodLink "WearHoursLaw" (126 : Nat) ({ cls := "WearHoursModel", name := "cost", desc := "()I" } : Jvm.MethodName)) ∈ gt := gtn (tb4 93 rfl) rfl
theorem kw_835 : (Jvm.Cond.instanceMethod ({ cls := "WearHoursModel", name := "cost", desc := "()I" } : Jvm.MethodName)) ∈ gt := gtn (tb4 94 rfl) rfl
theorem kw_836 : (Jvm.Cond.selects "WearHoursModel" ({ cls := "WearHoursModel", name := "cost", desc := "()I" } : Jvm.MethodName) ({ cls := "WearHoursModel", name := "cost", desc := "()I" } : Jvm.MethodName)) ∈ gt := gtn (tb4 95 rfl) rfl
theorem kw_837 : (Jvm.Cond.code ({ cls := "WearHoursModel", name := "cost", desc := "()I" } : Jvm.MethodName) prog_9_method_27_code (1 : Nat) (Option.some Jvm.ClassFile.FieldType.int)) ∈ gt := gtn (tb4 96 rfl) rfl
theorem kw_838 : (Jvm.Cond.methodLink "WearHoursLaw" (129 : Nat) ({ cls := "WearHoursModel", name := "done", desc := "()I" } : Jvm.MethodName)) ∈ gt := gtn (tb4 97 rfl) rfl
theorem kw_839 : (Jvm.Cond.instanceMethod ({ cls := "WearHoursModel", name := "done", desc := "()I" } : Jvm.MethodName)) ∈ gt := gtn (tb4 98 rfl) rfl
theorem kw_840 : (Jvm.Cond.selects "WearHoursModel" ({ cls := "WearHoursModel", name := "done", desc := "()I" } : Jvm.MethodName) ({ cls := "WearHoursModel", name := "done", desc := "()I" } : Jvm.MethodName)) ∈ gt := gtn (tb4 99 rfl) rfl
theorem kw_841 : (Jvm.Cond.code ({ cls := "WearHoursModel", name := "done", desc := "()I" } : Jvm.MethodName) prog_9_method_28_code (3 : Nat) (Option.some Jvm.ClassFile.FieldType.int)) ∈ gt := gtn (tb4 100 rfl) rfl
theorem kw_842 : (Jvm.Cond.methodLink "WearHoursLaw" (132 : Nat) ({ cls := "WearHoursModel", name := "spare", desc := "(II)I" } : Jvm.MethodName)) ∈ gt := gtn (tb4 101 rfl) rfl
theorem kw_843 : (Jvm.Cond.instanceMethod ({ cls := "WearHoursModel", name := "spare", desc := "(II)I" } : Jvm.MethodName)) ∈ gt := gtn (tb4 102 rfl) rfl
theorem kw_844 : (Jvm.Cond.selects "WearHoursModel" ({ cls := "WearHoursModel", name := "spare", desc := "(II)I" } : Jvm.MethodName) ({ cls := "WearHoursModel", name := "spare", desc := "(II)I" } : Jvm.MethodName)) ∈ gt := gtn (tb4 103 rfl) rfl
theorem kw_845 : (Jvm.Cond.code ({ cls := "WearHoursModel", name := "spare", desc := "(II)I" } : Jvm.MethodName) prog_9_method_29_code (5 : Nat) (Option.some Jvm.ClassFile.FieldType.int)) ∈ gt := gtn (tb4 104 rfl) rfl
theorem kw_846 : (Jvm.Cond.constantLong "WearHoursLaw" (69 : Nat) (4294967295 : Int64)) ∈ gt := gtn (tb4 105 rfl) rfl
theorem kw_847 : (Jvm.Cond.arrayClass Jvm.ClassFile.FieldType.long) ∈ gt := gtn (tb4 106 rfl) rfl
