-- the places of the words
set_option maxRecDepth 100000 in
theorem kw_0 : (Jvm.Cond.selects "PuppetTheatre" ({ cls := "PuppetTheatre", name := "checkResting", desc := "()V" } : Jvm.MethodName) ({ cls := "PuppetTheatre", name := "checkResting", desc := "()V" } : Jvm.MethodName)) ∈ lw_all := pt_all (List.mem_of_getElem? (i := 0) rfl) rfl
set_option maxRecDepth 100000 in
theorem kw_2 : (Jvm.Cond.selects "PuppetTheatre$Play" ({ cls := "PuppetTheatre$Play", name := "act", desc := "(LPuppetTheatre$Action;)V" } : Jvm.MethodName) ({ cls := "PuppetTheatre$Play", name := "act", desc := "(LPuppetTheatre$Action;)V" } : Jvm.MethodName)) ∈ lw_all := pt_all (List.mem_of_getElem? (i := 2) rfl) rfl
set_option maxRecDepth 100000 in
theorem kw_3 : (Jvm.Cond.selects "PuppetTheatre$Play" ({ cls := "PuppetTheatre$Play", name := "raise", desc := "(I)V" } : Jvm.MethodName) ({ cls := "PuppetTheatre$Play", name := "raise", desc := "(I)V" } : Jvm.MethodName)) ∈ lw_all := pt_all (List.mem_of_getElem? (i := 3) rfl) rfl
set_option maxRecDepth 100000 in
theorem kw_4 : (Jvm.Cond.selects "PuppetTheatre$Play" ({ cls := "PuppetTheatre$Play", name := "loseQueue", desc := "()V" } : Jvm.MethodName) ({ cls := "PuppetTheatre$Play", name := "loseQueue", desc := "()V" } : Jvm.MethodName)) ∈ lw_all := pt_all (List.mem_of_getElem? (i := 4) rfl) rfl
set_option maxRecDepth 100000 in
theorem kw_5 : (Jvm.Cond.selects "PuppetTheatre$Play" ({ cls := "PuppetTheatre$Play", name := "growOlder", desc := "()V" } : Jvm.MethodName) ({ cls := "PuppetTheatre$Play", name := "growOlder", desc := "()V" } : Jvm.MethodName)) ∈ lw_all := pt_all (List.mem_of_getElem? (i := 5) rfl) rfl
set_option maxRecDepth 100000 in
theorem kw_6 : (Jvm.Cond.selects "PuppetTheatre$Play" ({ cls := "PuppetTheatre$Play", name := "step", desc := "(I)I" } : Jvm.MethodName) ({ cls := "PuppetTheatre$Play", name := "step", desc := "(I)I" } : Jvm.MethodName)) ∈ lw_all := pt_all (List.mem_of_getElem? (i := 6) rfl) rfl
set_option maxRecDepth 100000 in
theorem kw_7 : (Jvm.Cond.selects "PuppetTheatre$Play" ({ cls := "PuppetTheatre$Play", name := "isOpen", desc := "(LPuppetTheatre$Transition;I)Z" } : Jvm.MethodName) ({ cls := "PuppetTheatre$Play", name := "isOpen", desc := "(LPuppetTheatre$Transition;I)Z" } : Jvm.MethodName)) ∈ lw_all := pt_all (List.mem_of_getElem? (i := 7) rfl) rfl
set_option maxRecDepth 100000 in
theorem kw_8 : (Jvm.Cond.selects "PuppetTheatre$Play" ({ cls := "PuppetTheatre$Play", name := "choose", desc := "(I)V" } : Jvm.MethodName) ({ cls := "PuppetTheatre$Play", name := "choose", desc := "(I)V" } : Jvm.MethodName)) ∈ lw_all := pt_all (List.mem_of_getElem? (i := 8) rfl) rfl
set_option maxRecDepth 100000 in
theorem kw_9 : (Jvm.Cond.selects "PuppetTheatre$Play" ({ cls := "PuppetTheatre$Play", name := "nearestOpen", desc := "(II)I" } : Jvm.MethodName) ({ cls := "PuppetTheatre$Play", name := "nearestOpen", desc := "(II)I" } : Jvm.MethodName)) ∈ lw_all := pt_all (List.mem_of_getElem? (i := 9) rfl) rfl
set_option maxRecDepth 100000 in
theorem kw_10 : (Jvm.Cond.selects "PuppetTheatre$Play" ({ cls := "PuppetTheatre$Play", name := "takeIfFree", desc := "(I)V" } : Jvm.MethodName) ({ cls := "PuppetTheatre$Play", name := "takeIfFree", desc := "(I)V" } : Jvm.MethodName)) ∈ lw_all := pt_all (List.mem_of_getElem? (i := 10) rfl) rfl
set_option maxRecDepth 100000 in
theorem kw_11 : (Jvm.Cond.selects "PuppetTheatre$Play" ({ cls := "PuppetTheatre$Play", name := "leftBy", desc := "(LPuppetTheatre$Transition;)I" } : Jvm.MethodName) ({ cls := "PuppetTheatre$Play", name := "leftBy", desc := "(LPuppetTheatre$Transition;)I" } : Jvm.MethodName)) ∈ lw_all := pt_all (List.mem_of_getElem? (i := 11) rfl) rfl
set_option maxRecDepth 100000 in
theorem kw_12 : (Jvm.Cond.selects "PuppetTheatre$Play" ({ cls := "PuppetTheatre$Play", name := "makeRecords", desc := "(I)V" } : Jvm.MethodName) ({ cls := "PuppetTheatre$Play", name := "makeRecords", desc := "(I)V" } : Jvm.MethodName)) ∈ lw_all := pt_all (List.mem_of_getElem? (i := 12) rfl) rfl
set_option maxRecDepth 100000 in
theorem kw_13 : (Jvm.Cond.selects "PuppetTheatre$Play" ({ cls := "PuppetTheatre$Play", name := "leave", desc := "(I)V" } : Jvm.MethodName) ({ cls := "PuppetTheatre$Play", name := "leave", desc := "(I)V" } : Jvm.MethodName)) ∈ lw_all := pt_all (List.mem_of_getElem? (i := 13) rfl) rfl
set_option maxRecDepth 100000 in
theorem kw_14 : (Jvm.Cond.selects "PuppetTheatre$Play" ({ cls := "PuppetTheatre$Play", name := "targetsOf", desc := "(LPuppetTheatre$Transition;)I" } : Jvm.MethodName) ({ cls := "PuppetTheatre$Play", name := "targetsOf", desc := "(LPuppetTheatre$Transition;)I" } : Jvm.MethodName)) ∈ lw_all := pt_all (List.mem_of_getElem? (i := 14) rfl) rfl
set_option maxRecDepth 100000 in
theorem kw_15 : (Jvm.Cond.selects "PuppetTheatre$Chart" ({ cls := "PuppetTheatre$Chart", name := "partsAside", desc := "(II)I" } : Jvm.MethodName) ({ cls := "PuppetTheatre$Chart", name := "partsAside", desc := "(II)I" } : Jvm.MethodName)) ∈ lw_all := pt_all (List.mem_of_getElem? (i := 15) rfl) rfl
set_option maxRecDepth 100000 in
theorem kw_16 : (Jvm.Cond.selects "PuppetTheatre$Play" ({ cls := "PuppetTheatre$Play", name := "nextEvent", desc := "()I" } : Jvm.MethodName) ({ cls := "PuppetTheatre$Play", name := "nextEvent", desc := "()I" } : Jvm.MethodName)) ∈ lw_all := pt_all (List.mem_of_getElem? (i := 16) rfl) rfl
set_option maxRecDepth 100000 in
theorem kw_17 : (Jvm.Cond.selects "PuppetTheatre" ({ cls := "PuppetTheatre", name := "checkRunning", desc := "()V" } : Jvm.MethodName) ({ cls := "PuppetTheatre", name := "checkRunning", desc := "()V" } : Jvm.MethodName)) ∈ lw_all := pt_all (List.mem_of_getElem? (i := 17) rfl) rfl
set_option maxRecDepth 100000 in
theorem kw_18 : (Jvm.Cond.selects "PuppetTheatre" ({ cls := "PuppetTheatre", name := "checkState", desc := "(I)V" } : Jvm.MethodName) ({ cls := "PuppetTheatre", name := "checkState", desc := "(I)V" } : Jvm.MethodName)) ∈ lw_all := pt_all (List.mem_of_getElem? (i := 18) rfl) rfl
set_option maxRecDepth 100000 in
theorem kw_19 : (Jvm.Cond.selects "PuppetTheatre" ({ cls := "PuppetTheatre", name := "checkTransition", desc := "(I)V" } : Jvm.MethodName) ({ cls := "PuppetTheatre", name := "checkTransition", desc := "(I)V" } : Jvm.MethodName)) ∈ lw_all := pt_all (List.mem_of_getElem? (i := 19) rfl) rfl
set_option maxRecDepth 100000 in
theorem kw_20 : (Jvm.Cond.selects "PuppetTheatre$Look" ({ cls := "PuppetTheatre$Look", name := "isReached", desc := "(II)Z" } : Jvm.MethodName) ({ cls := "PuppetTheatre$Look", name := "isReached", desc := "(II)Z" } : Jvm.MethodName)) ∈ lw_all := pt_all (List.mem_of_getElem? (i := 20) rfl) rfl
set_option maxRecDepth 100000 in
theorem kw_21 : (Jvm.Cond.selects "PuppetTheatre$Look" ({ cls := "PuppetTheatre$Look", name := "writeRow", desc := "(II)V" } : Jvm.MethodName) ({ cls := "PuppetTheatre$Look", name := "writeRow", desc := "(II)V" } : Jvm.MethodName)) ∈ lw_all := pt_all (List.mem_of_getElem? (i := 21) rfl) rfl
set_option maxRecDepth 100000 in
theorem kw_22 : (Jvm.Cond.selects "PuppetTheatre$Look" ({ cls := "PuppetTheatre$Look", name := "keepIfNew", desc := "(II)V" } : Jvm.MethodName) ({ cls := "PuppetTheatre$Look", name := "keepIfNew", desc := "(II)V" } : Jvm.MethodName)) ∈ lw_all := pt_all (List.mem_of_getElem? (i := 22) rfl) rfl
set_option maxRecDepth 100000 in
theorem kw_23 : (Jvm.Cond.selects "PuppetTheatre" ({ cls := "PuppetTheatre", name := "digestOfStates", desc := "(J)J" } : Jvm.MethodName) ({ cls := "PuppetTheatre", name := "digestOfStates", desc := "(J)J" } : Jvm.MethodName)) ∈ lw_all := pt_all (List.mem_of_getElem? (i := 23) rfl) rfl
set_option maxRecDepth 100000 in
theorem kw_24 : (Jvm.Cond.selects "PuppetTheatre$Chart" ({ cls := "PuppetTheatre$Chart", name := "scopeOf", desc := "(II)I" } : Jvm.MethodName) ({ cls := "PuppetTheatre$Chart", name := "scopeOf", desc := "(II)I" } : Jvm.MethodName)) ∈ lw_all := pt_all (List.mem_of_getElem? (i := 24) rfl) rfl
set_option maxRecDepth 100000 in
theorem kw_25 : (Jvm.Cond.initialized "PuppetTheatreLaw") ∈ lw_all := pt_all (List.mem_of_getElem? (i := 25) rfl) rfl
set_option maxRecDepth 100000 in
theorem kw_26 : (Jvm.Cond.initialized "PuppetTheatre") ∈ lw_all := pt_all (List.mem_of_getElem? (i := 26) rfl) rfl
set_option maxRecDepth 100000 in
theorem kw_27 : (Jvm.Cond.initialized "PuppetTheatre$Chart") ∈ lw_all := pt_all (List.mem_of_getElem? (i := 27) rfl) rfl
set_option maxRecDepth 100000 in
theorem kw_28 : (Jvm.Cond.initialized "PuppetTheatre$State") ∈ lw_all := pt_all (List.mem_of_getElem? (i := 28) rfl) rfl
set_option maxRecDepth 100000 in
theorem kw_29 : (Jvm.Cond.initialized "PuppetTheatre$Action") ∈ lw_all := pt_all (List.mem_of_getElem? (i := 29) rfl) rfl
set_option maxRecDepth 100000 in
theorem kw_30 : (Jvm.Cond.initialized "PuppetTheatre$Transition") ∈ lw_all := pt_all (List.mem_of_getElem? (i := 30) rfl) rfl
set_option maxRecDepth 100000 in
theorem kw_31 : (Jvm.Cond.initialized "PuppetTheatre$Play") ∈ lw_all := pt_all (List.mem_of_getElem? (i := 31) rfl) rfl
set_option maxRecDepth 100000 in
theorem kw_32 : (Jvm.Cond.initialized "PuppetTheatre$Situation") ∈ lw_all := pt_all (List.mem_of_getElem? (i := 32) rfl) rfl
set_option maxRecDepth 100000 in
theorem kw_33 : (Jvm.Cond.initialized "PuppetTheatre$Look") ∈ lw_all := pt_all (List.mem_of_getElem? (i := 33) rfl) rfl
set_option maxRecDepth 100000 in
theorem kw_40 : (Jvm.Cond.initialized "java/lang/Math") ∈ lw_all := pt_all (List.mem_of_getElem? (i := 40) rfl) rfl
set_option maxRecDepth 100000 in
theorem kw_41 : (Jvm.Cond.initialized "java/lang/Integer") ∈ lw_all := pt_all (List.mem_of_getElem? (i := 41) rfl) rfl
set_option maxRecDepth 100000 in
theorem kw_42 : (Jvm.Cond.initialized "java/lang/System") ∈ lw_all := pt_all (List.mem_of_getElem? (i := 42) rfl) rfl
set_option maxRecDepth 100000 in
theorem kw_43 : (Jvm.Cond.classLink "PuppetTheatreLaw" (22 : Nat) "PuppetTheatre") ∈ lw_all := pt_all (List.mem_of_getElem? (i := 43) rfl) rfl
set_option maxRecDepth 100000 in
theorem kw_44 : (Jvm.Cond.instantiable "PuppetTheatre" (5 : Nat)) ∈ lw_all := pt_all (List.mem_of_getElem? (i := 44) rfl) rfl
set_option maxRecDepth 100000 in
theorem kw_45 : (Jvm.Cond.methodLink "PuppetTheatreLaw" (67 : Nat) ({ cls := "PuppetTheatre", name := "<init>", desc := "()V" } : Jvm.MethodName)) ∈ lw_all := pt_all (List.mem_of_getElem? (i := 45) rfl) rfl
set_option maxRecDepth 100000 in
theorem kw_46 : (Jvm.Cond.instanceMethod ({ cls := "PuppetTheatre", name := "<init>", desc := "()V" } : Jvm.MethodName)) ∈ lw_all := pt_all (List.mem_of_getElem? (i := 46) rfl) rfl
set_option maxRecDepth 100000 in
theorem kw_47 : (Jvm.Cond.code ({ cls := "PuppetTheatre", name := "<init>", desc := "()V" } : Jvm.MethodName) prog_1_method_1_code (1 : Nat) (Option.none : Option Jvm.ClassFile.FieldType)) ∈ lw_all := pt_all (List.mem_of_getElem? (i := 47) rfl) rfl
set_option maxRecDepth 100000 in
theorem kw_48 : (Jvm.Cond.methodLink "PuppetTheatre" (1 : Nat) ({ cls := "java/lang/Object", name := "<init>", desc := "()V" } : Jvm.MethodName)) ∈ lw_all := pt_all (List.mem_of_getElem? (i := 48) rfl) rfl
set_option maxRecDepth 100000 in
theorem kw_49 : (Jvm.Cond.instanceMethod ({ cls := "java/lang/Object", name := "<init>", desc := "()V" } : Jvm.MethodName)) ∈ lw_all := pt_all (List.mem_of_getElem? (i := 49) rfl) rfl
set_option maxRecDepth 100000 in
theorem kw_50 : (Jvm.Cond.code ({ cls := "java/lang/Object", name := "<init>", desc := "()V" } : Jvm.MethodName) object_method_1_code (1 : Nat) (Option.none : Option Jvm.ClassFile.FieldType)) ∈ lw_all := pt_all (List.mem_of_getElem? (i := 50) rfl) rfl
set_option maxRecDepth 100000 in
theorem kw_51 : (Jvm.Cond.classLink "PuppetTheatre" (7 : Nat) "PuppetTheatre$Chart") ∈ lw_all := pt_all (List.mem_of_getElem? (i := 51) rfl) rfl
set_option maxRecDepth 100000 in
theorem kw_52 : (Jvm.Cond.instantiable "PuppetTheatre$Chart" (7 : Nat)) ∈ lw_all := pt_all (List.mem_of_getElem? (i := 52) rfl) rfl
set_option maxRecDepth 100000 in
theorem kw_53 : (Jvm.Cond.methodLink "PuppetTheatre" (9 : Nat) ({ cls := "PuppetTheatre$Chart", name := "<init>", desc := "()V" } : Jvm.MethodName)) ∈ lw_all := pt_all (List.mem_of_getElem? (i := 53) rfl) rfl
set_option maxRecDepth 100000 in
theorem kw_54 : (Jvm.Cond.instanceMethod ({ cls := "PuppetTheatre$Chart", name := "<init>", desc := "()V" } : Jvm.MethodName)) ∈ lw_all := pt_all (List.mem_of_getElem? (i := 54) rfl) rfl
set_option maxRecDepth 100000 in
theorem kw_55 : (Jvm.Cond.code ({ cls := "PuppetTheatre$Chart", name := "<init>", desc := "()V" } : Jvm.MethodName) prog_3_method_1_code (2 : Nat) (Option.none : Option Jvm.ClassFile.FieldType)) ∈ lw_all := pt_all (List.mem_of_getElem? (i := 55) rfl) rfl
set_option maxRecDepth 100000 in
theorem kw_56 : (Jvm.Cond.methodLink "PuppetTheatre$Chart" (3 : Nat) ({ cls := "java/lang/Object", name := "<init>", desc := "()V" } : Jvm.MethodName)) ∈ lw_all := pt_all (List.mem_of_getElem? (i := 56) rfl) rfl
set_option maxRecDepth 100000 in
theorem kw_57 : (Jvm.Cond.classLink "PuppetTheatre$Chart" (9 : Nat) "PuppetTheatre$State") ∈ lw_all := pt_all (List.mem_of_getElem? (i := 57) rfl) rfl
set_option maxRecDepth 100000 in
theorem kw_58 : (Jvm.Cond.arrayOver (Jvm.ClassFile.FieldType.object "PuppetTheatre$State")) ∈ lw_all := pt_all (List.mem_of_getElem? (i := 58) rfl) rfl
set_option maxRecDepth 100000 in
theorem kw_59 : (Jvm.Cond.classLink "PuppetTheatre$Chart" (17 : Nat) "PuppetTheatre$Transition") ∈ lw_all := pt_all (List.mem_of_getElem? (i := 59) rfl) rfl
set_option maxRecDepth 100000 in
theorem kw_60 : (Jvm.Cond.arrayOver (Jvm.ClassFile.FieldType.object "PuppetTheatre$Transition")) ∈ lw_all := pt_all (List.mem_of_getElem? (i := 60) rfl) rfl
set_option maxRecDepth 100000 in
theorem kw_61 : (Jvm.Cond.methodLinkNest "PuppetTheatre$Chart" (31 : Nat) ({ cls := "PuppetTheatre", name := "setOf", desc := "(I)I" } : Jvm.MethodName) "PuppetTheatre") ∈ lw_all := pt_all (List.mem_of_getElem? (i := 61) rfl) rfl
set_option maxRecDepth 100000 in
theorem kw_62 : (Jvm.Cond.static ({ cls := "PuppetTheatre", name := "setOf", desc := "(I)I" } : Jvm.MethodName)) ∈ lw_all := pt_all (List.mem_of_getElem? (i := 62) rfl) rfl
set_option maxRecDepth 100000 in
theorem kw_63 : (Jvm.Cond.code ({ cls := "PuppetTheatre", name := "setOf", desc := "(I)I" } : Jvm.MethodName) prog_1_method_48_code (1 : Nat) (Option.some Jvm.ClassFile.FieldType.int)) ∈ lw_all := pt_all (List.mem_of_getElem? (i := 63) rfl) rfl
set_option maxRecDepth 100000 in
theorem kw_64 : (Jvm.Cond.instantiable "PuppetTheatre$State" (9 : Nat)) ∈ lw_all := pt_all (List.mem_of_getElem? (i := 64) rfl) rfl
set_option maxRecDepth 100000 in
theorem kw_65 : (Jvm.Cond.methodLinkNest "PuppetTheatre$Chart" (38 : Nat) ({ cls := "PuppetTheatre$State", name := "<init>", desc := "()V" } : Jvm.MethodName) "PuppetTheatre") ∈ lw_all := pt_all (List.mem_of_getElem? (i := 65) rfl) rfl
set_option maxRecDepth 100000 in
theorem kw_66 : (Jvm.Cond.instanceMethod ({ cls := "PuppetTheatre$State", name := "<init>", desc := "()V" } : Jvm.MethodName)) ∈ lw_all := pt_all (List.mem_of_getElem? (i := 66) rfl) rfl
set_option maxRecDepth 100000 in
theorem kw_67 : (Jvm.Cond.code ({ cls := "PuppetTheatre$State", name := "<init>", desc := "()V" } : Jvm.MethodName) prog_7_method_1_code (1 : Nat) (Option.none : Option Jvm.ClassFile.FieldType)) ∈ lw_all := pt_all (List.mem_of_getElem? (i := 67) rfl) rfl
set_option maxRecDepth 100000 in
theorem kw_68 : (Jvm.Cond.methodLink "PuppetTheatre$State" (3 : Nat) ({ cls := "java/lang/Object", name := "<init>", desc := "()V" } : Jvm.MethodName)) ∈ lw_all := pt_all (List.mem_of_getElem? (i := 68) rfl) rfl
set_option maxRecDepth 100000 in
theorem kw_69 : (Jvm.Cond.classLink "PuppetTheatre$State" (9 : Nat) "PuppetTheatre$Action") ∈ lw_all := pt_all (List.mem_of_getElem? (i := 69) rfl) rfl
set_option maxRecDepth 100000 in
theorem kw_70 : (Jvm.Cond.instantiable "PuppetTheatre$Action" (3 : Nat)) ∈ lw_all := pt_all (List.mem_of_getElem? (i := 70) rfl) rfl
set_option maxRecDepth 100000 in
theorem kw_71 : (Jvm.Cond.methodLinkNest "PuppetTheatre$State" (11 : Nat) ({ cls := "PuppetTheatre$Action", name := "<init>", desc := "()V" } : Jvm.MethodName) "PuppetTheatre") ∈ lw_all := pt_all (List.mem_of_getElem? (i := 71) rfl) rfl
set_option maxRecDepth 100000 in
theorem kw_72 : (Jvm.Cond.instanceMethod ({ cls := "PuppetTheatre$Action", name := "<init>", desc := "()V" } : Jvm.MethodName)) ∈ lw_all := pt_all (List.mem_of_getElem? (i := 72) rfl) rfl
set_option maxRecDepth 100000 in
theorem kw_73 : (Jvm.Cond.code ({ cls := "PuppetTheatre$Action", name := "<init>", desc := "()V" } : Jvm.MethodName) prog_2_method_1_code (1 : Nat) (Option.none : Option Jvm.ClassFile.FieldType)) ∈ lw_all := pt_all (List.mem_of_getElem? (i := 73) rfl) rfl
set_option maxRecDepth 100000 in
theorem kw_74 : (Jvm.Cond.methodLink "PuppetTheatre$Action" (1 : Nat) ({ cls := "java/lang/Object", name := "<init>", desc := "()V" } : Jvm.MethodName)) ∈ lw_all := pt_all (List.mem_of_getElem? (i := 74) rfl) rfl
set_option maxRecDepth 100000 in
theorem kw_75 : (Jvm.Cond.fieldLink "PuppetTheatre$Action" (7 : Nat) "PuppetTheatre$Action" "code" "I") ∈ lw_all := pt_all (List.mem_of_getElem? (i := 75) rfl) rfl
set_option maxRecDepth 100000 in
theorem kw_76 : (Jvm.Cond.fieldLink "PuppetTheatre$Play" (222 : Nat) "PuppetTheatre$Action" "code" "I") ∈ lw_all := pt_all (List.mem_of_getElem? (i := 76) rfl) rfl
set_option maxRecDepth 100000 in
theorem kw_77 : (Jvm.Cond.fieldLink "PuppetTheatre$Action" (13 : Nat) "PuppetTheatre$Action" "what" "I") ∈ lw_all := pt_all (List.mem_of_getElem? (i := 77) rfl) rfl
set_option maxRecDepth 100000 in
theorem kw_78 : (Jvm.Cond.fieldLink "PuppetTheatre$Play" (227 : Nat) "PuppetTheatre$Action" "what" "I") ∈ lw_all := pt_all (List.mem_of_getElem? (i := 78) rfl) rfl
set_option maxRecDepth 100000 in
theorem kw_79 : (Jvm.Cond.fieldLink "PuppetTheatre$Action" (16 : Nat) "PuppetTheatre$Action" "n" "I") ∈ lw_all := pt_all (List.mem_of_getElem? (i := 79) rfl) rfl
set_option maxRecDepth 100000 in
theorem kw_80 : (Jvm.Cond.fieldLink "PuppetTheatre$Play" (230 : Nat) "PuppetTheatre$Action" "n" "I") ∈ lw_all := pt_all (List.mem_of_getElem? (i := 80) rfl) rfl
set_option maxRecDepth 100000 in
theorem kw_88 : (Jvm.Cond.arrayClass Jvm.ClassFile.FieldType.int) ∈ lw_all := pt_all (List.mem_of_getElem? (i := 88) rfl) rfl
set_option maxRecDepth 100000 in
theorem kw_89 : (Jvm.Cond.fieldLink "PuppetTheatre$State" (12 : Nat) "PuppetTheatre$State" "entering" "LPuppetTheatre$Action;") ∈ lw_all := pt_all (List.mem_of_getElem? (i := 89) rfl) rfl
set_option maxRecDepth 100000 in
theorem kw_90 : (Jvm.Cond.fieldLink "PuppetTheatre" (102 : Nat) "PuppetTheatre$State" "entering" "LPuppetTheatre$Action;") ∈ lw_all := pt_all (List.mem_of_getElem? (i := 90) rfl) rfl
set_option maxRecDepth 100000 in
theorem kw_91 : (Jvm.Cond.fieldLink "PuppetTheatre$Play" (216 : Nat) "PuppetTheatre$State" "entering" "LPuppetTheatre$Action;") ∈ lw_all := pt_all (List.mem_of_getElem? (i := 91) rfl) rfl
set_option maxRecDepth 100000 in
theorem kw_92 : (Jvm.Cond.fieldLink "PuppetTheatre$State" (18 : Nat) "PuppetTheatre$State" "leaving" "LPuppetTheatre$Action;") ∈ lw_all := pt_all (List.mem_of_getElem? (i := 92) rfl) rfl
set_option maxRecDepth 100000 in
theorem kw_93 : (Jvm.Cond.fieldLink "PuppetTheatre" (98 : Nat) "PuppetTheatre$State" "leaving" "LPuppetTheatre$Action;") ∈ lw_all := pt_all (List.mem_of_getElem? (i := 93) rfl) rfl
set_option maxRecDepth 100000 in
theorem kw_94 : (Jvm.Cond.fieldLink "PuppetTheatre$Play" (213 : Nat) "PuppetTheatre$State" "leaving" "LPuppetTheatre$Action;") ∈ lw_all := pt_all (List.mem_of_getElem? (i := 94) rfl) rfl
set_option maxRecDepth 100000 in
theorem kw_95 : (Jvm.Cond.fieldLink "PuppetTheatre$State" (21 : Nat) "PuppetTheatre$State" "kind" "I") ∈ lw_all := pt_all (List.mem_of_getElem? (i := 95) rfl) rfl
set_option maxRecDepth 100000 in
theorem kw_96 : (Jvm.Cond.fieldLink "PuppetTheatre$Chart" (40 : Nat) "PuppetTheatre$State" "kind" "I") ∈ lw_all := pt_all (List.mem_of_getElem? (i := 96) rfl) rfl
set_option maxRecDepth 100000 in
theorem kw_97 : (Jvm.Cond.fieldLink "PuppetTheatre" (69 : Nat) "PuppetTheatre$State" "kind" "I") ∈ lw_all := pt_all (List.mem_of_getElem? (i := 97) rfl) rfl
set_option maxRecDepth 100000 in
theorem kw_98 : (Jvm.Cond.fieldLink "PuppetTheatre$Play" (207 : Nat) "PuppetTheatre$State" "kind" "I") ∈ lw_all := pt_all (List.mem_of_getElem? (i := 98) rfl) rfl
set_option maxRecDepth 100000 in
theorem kw_99 : (Jvm.Cond.fieldLink "PuppetTheatre$State" (25 : Nat) "PuppetTheatre$State" "parent" "I") ∈ lw_all := pt_all (List.mem_of_getElem? (i := 99) rfl) rfl
set_option maxRecDepth 100000 in
theorem kw_100 : (Jvm.Cond.fieldLink "PuppetTheatre$Chart" (43 : Nat) "PuppetTheatre$State" "parent" "I") ∈ lw_all := pt_all (List.mem_of_getElem? (i := 100) rfl) rfl
set_option maxRecDepth 100000 in
theorem kw_101 : (Jvm.Cond.fieldLink "PuppetTheatre" (184 : Nat) "PuppetTheatre$State" "parent" "I") ∈ lw_all := pt_all (List.mem_of_getElem? (i := 101) rfl) rfl
set_option maxRecDepth 100000 in
theorem kw_102 : (Jvm.Cond.fieldLink "PuppetTheatre$Play" (204 : Nat) "PuppetTheatre$State" "parent" "I") ∈ lw_all := pt_all (List.mem_of_getElem? (i := 102) rfl) rfl
set_option maxRecDepth 100000 in
theorem kw_103 : (Jvm.Cond.fieldLink "PuppetTheatre$State" (28 : Nat) "PuppetTheatre$State" "first" "I") ∈ lw_all := pt_all (List.mem_of_getElem? (i := 103) rfl) rfl
set_option maxRecDepth 100000 in
theorem kw_104 : (Jvm.Cond.fieldLink "PuppetTheatre" (86 : Nat) "PuppetTheatre$State" "first" "I") ∈ lw_all := pt_all (List.mem_of_getElem? (i := 104) rfl) rfl
set_option maxRecDepth 100000 in
theorem kw_105 : (Jvm.Cond.fieldLink "PuppetTheatre$Play" (54 : Nat) "PuppetTheatre$State" "parts" "I") ∈ lw_all := pt_all (List.mem_of_getElem? (i := 105) rfl) rfl
set_option maxRecDepth 100000 in
theorem kw_106 : (Jvm.Cond.fieldLink "PuppetTheatre$State" (38 : Nat) "PuppetTheatre$State" "parts" "I") ∈ lw_all := pt_all (List.mem_of_getElem? (i := 106) rfl) rfl
set_option maxRecDepth 100000 in
theorem kw_107 : (Jvm.Cond.fieldLink "PuppetTheatre$Chart" (101 : Nat) "PuppetTheatre$State" "parts" "I") ∈ lw_all := pt_all (List.mem_of_getElem? (i := 107) rfl) rfl
set_option maxRecDepth 100000 in
theorem kw_108 : (Jvm.Cond.fieldLink "PuppetTheatre" (79 : Nat) "PuppetTheatre$State" "parts" "I") ∈ lw_all := pt_all (List.mem_of_getElem? (i := 108) rfl) rfl
set_option maxRecDepth 100000 in
theorem kw_109 : (Jvm.Cond.fieldLink "PuppetTheatre$State" (35 : Nat) "PuppetTheatre$State" "filledWith" "I") ∈ lw_all := pt_all (List.mem_of_getElem? (i := 109) rfl) rfl
set_option maxRecDepth 100000 in
theorem kw_110 : (Jvm.Cond.fieldLink "PuppetTheatre$Chart" (92 : Nat) "PuppetTheatre$State" "filledWith" "I") ∈ lw_all := pt_all (List.mem_of_getElem? (i := 110) rfl) rfl
set_option maxRecDepth 100000 in
theorem kw_111 : (Jvm.Cond.fieldLink "PuppetTheatre$Play" (219 : Nat) "PuppetTheatre$State" "filledWith" "I") ∈ lw_all := pt_all (List.mem_of_getElem? (i := 111) rfl) rfl
set_option maxRecDepth 100000 in
theorem kw_112 : (Jvm.Cond.fieldLink "PuppetTheatre$Chart" (46 : Nat) "PuppetTheatre$State" "beneath" "I") ∈ lw_all := pt_all (List.mem_of_getElem? (i := 112) rfl) rfl
set_option maxRecDepth 100000 in
theorem kw_113 : (Jvm.Cond.fieldLink "PuppetTheatre$Play" (187 : Nat) "PuppetTheatre$State" "beneath" "I") ∈ lw_all := pt_all (List.mem_of_getElem? (i := 113) rfl) rfl
set_option maxRecDepth 100000 in
theorem kw_114 : (Jvm.Cond.fieldLink "PuppetTheatre$Chart" (86 : Nat) "PuppetTheatre$State" "departing" "I") ∈ lw_all := pt_all (List.mem_of_getElem? (i := 114) rfl) rfl
set_option maxRecDepth 100000 in
theorem kw_115 : (Jvm.Cond.fieldLink "PuppetTheatre$Play" (190 : Nat) "PuppetTheatre$State" "departing" "I") ∈ lw_all := pt_all (List.mem_of_getElem? (i := 115) rfl) rfl
set_option maxRecDepth 100000 in
theorem kw_135 : (Jvm.Cond.instantiable "PuppetTheatre$Transition" (9 : Nat)) ∈ lw_all := pt_all (List.mem_of_getElem? (i := 135) rfl) rfl
set_option maxRecDepth 100000 in
theorem kw_136 : (Jvm.Cond.methodLinkNest "PuppetTheatre$Chart" (39 : Nat) ({ cls := "PuppetTheatre$Transition", name := "<init>", desc := "()V" } : Jvm.MethodName) "PuppetTheatre") ∈ lw_all := pt_all (List.mem_of_getElem? (i := 136) rfl) rfl
set_option maxRecDepth 100000 in
theorem kw_137 : (Jvm.Cond.instanceMethod ({ cls := "PuppetTheatre$Transition", name := "<init>", desc := "()V" } : Jvm.MethodName)) ∈ lw_all := pt_all (List.mem_of_getElem? (i := 137) rfl) rfl
set_option maxRecDepth 100000 in
theorem kw_138 : (Jvm.Cond.code ({ cls := "PuppetTheatre$Transition", name := "<init>", desc := "()V" } : Jvm.MethodName) prog_8_method_1_code (1 : Nat) (Option.none : Option Jvm.ClassFile.FieldType)) ∈ lw_all := pt_all (List.mem_of_getElem? (i := 138) rfl) rfl
set_option maxRecDepth 100000 in
theorem kw_139 : (Jvm.Cond.methodLink "PuppetTheatre$Transition" (3 : Nat) ({ cls := "java/lang/Object", name := "<init>", desc := "()V" } : Jvm.MethodName)) ∈ lw_all := pt_all (List.mem_of_getElem? (i := 139) rfl) rfl
set_option maxRecDepth 100000 in
theorem kw_140 : (Jvm.Cond.classLink "PuppetTheatre$Transition" (9 : Nat) "PuppetTheatre$Action") ∈ lw_all := pt_all (List.mem_of_getElem? (i := 140) rfl) rfl
set_option maxRecDepth 100000 in
theorem kw_141 : (Jvm.Cond.methodLinkNest "PuppetTheatre$Transition" (11 : Nat) ({ cls := "PuppetTheatre$Action", name := "<init>", desc := "()V" } : Jvm.MethodName) "PuppetTheatre") ∈ lw_all := pt_all (List.mem_of_getElem? (i := 141) rfl) rfl
set_option maxRecDepth 100000 in
theorem kw_142 : (Jvm.Cond.fieldLink "PuppetTheatre$Transition" (12 : Nat) "PuppetTheatre$Transition" "action" "LPuppetTheatre$Action;") ∈ lw_all := pt_all (List.mem_of_getElem? (i := 142) rfl) rfl
set_option maxRecDepth 100000 in
theorem kw_143 : (Jvm.Cond.fieldLink "PuppetTheatre" (142 : Nat) "PuppetTheatre$Transition" "action" "LPuppetTheatre$Action;") ∈ lw_all := pt_all (List.mem_of_getElem? (i := 143) rfl) rfl
set_option maxRecDepth 100000 in
theorem kw_144 : (Jvm.Cond.fieldLink "PuppetTheatre$Play" (120 : Nat) "PuppetTheatre$Transition" "action" "LPuppetTheatre$Action;") ∈ lw_all := pt_all (List.mem_of_getElem? (i := 144) rfl) rfl
set_option maxRecDepth 100000 in
theorem kw_145 : (Jvm.Cond.fieldLink "PuppetTheatre$Chart" (67 : Nat) "PuppetTheatre$Transition" "from" "I") ∈ lw_all := pt_all (List.mem_of_getElem? (i := 145) rfl) rfl
set_option maxRecDepth 100000 in
theorem kw_146 : (Jvm.Cond.fieldLink "PuppetTheatre$Play" (162 : Nat) "PuppetTheatre$Transition" "from" "I") ∈ lw_all := pt_all (List.mem_of_getElem? (i := 146) rfl) rfl
set_option maxRecDepth 100000 in
theorem kw_147 : (Jvm.Cond.fieldLink "PuppetTheatre$Chart" (70 : Nat) "PuppetTheatre$Transition" "trigger" "I") ∈ lw_all := pt_all (List.mem_of_getElem? (i := 147) rfl) rfl
set_option maxRecDepth 100000 in
theorem kw_148 : (Jvm.Cond.fieldLink "PuppetTheatre$Play" (172 : Nat) "PuppetTheatre$Transition" "trigger" "I") ∈ lw_all := pt_all (List.mem_of_getElem? (i := 148) rfl) rfl
set_option maxRecDepth 100000 in
theorem kw_149 : (Jvm.Cond.fieldLink "PuppetTheatre$Chart" (73 : Nat) "PuppetTheatre$Transition" "n" "I") ∈ lw_all := pt_all (List.mem_of_getElem? (i := 149) rfl) rfl
set_option maxRecDepth 100000 in
theorem kw_150 : (Jvm.Cond.fieldLink "PuppetTheatre$Play" (175 : Nat) "PuppetTheatre$Transition" "n" "I") ∈ lw_all := pt_all (List.mem_of_getElem? (i := 150) rfl) rfl
set_option maxRecDepth 100000 in
theorem kw_151 : (Jvm.Cond.fieldLink "PuppetTheatre$Transition" (18 : Nat) "PuppetTheatre$Transition" "to" "I") ∈ lw_all := pt_all (List.mem_of_getElem? (i := 151) rfl) rfl
set_option maxRecDepth 100000 in
theorem kw_152 : (Jvm.Cond.fieldLink "PuppetTheatre$Chart" (76 : Nat) "PuppetTheatre$Transition" "to" "I") ∈ lw_all := pt_all (List.mem_of_getElem? (i := 152) rfl) rfl
set_option maxRecDepth 100000 in
theorem kw_153 : (Jvm.Cond.fieldLink "PuppetTheatre$Play" (130 : Nat) "PuppetTheatre$Transition" "to" "I") ∈ lw_all := pt_all (List.mem_of_getElem? (i := 153) rfl) rfl
set_option maxRecDepth 100000 in
theorem kw_154 : (Jvm.Cond.fieldLink "PuppetTheatre$Transition" (22 : Nat) "PuppetTheatre$Transition" "scope" "I") ∈ lw_all := pt_all (List.mem_of_getElem? (i := 154) rfl) rfl
set_option maxRecDepth 100000 in
theorem kw_155 : (Jvm.Cond.fieldLink "PuppetTheatre$Chart" (83 : Nat) "PuppetTheatre$Transition" "scope" "I") ∈ lw_all := pt_all (List.mem_of_getElem? (i := 155) rfl) rfl
set_option maxRecDepth 100000 in
theorem kw_156 : (Jvm.Cond.fieldLink "PuppetTheatre$Play" (136 : Nat) "PuppetTheatre$Transition" "scope" "I") ∈ lw_all := pt_all (List.mem_of_getElem? (i := 156) rfl) rfl
set_option maxRecDepth 100000 in
theorem kw_157 : (Jvm.Cond.fieldLink "PuppetTheatre$Transition" (25 : Nat) "PuppetTheatre$Transition" "how" "I") ∈ lw_all := pt_all (List.mem_of_getElem? (i := 157) rfl) rfl
set_option maxRecDepth 100000 in
theorem kw_158 : (Jvm.Cond.fieldLink "PuppetTheatre" (131 : Nat) "PuppetTheatre$Transition" "how" "I") ∈ lw_all := pt_all (List.mem_of_getElem? (i := 158) rfl) rfl
set_option maxRecDepth 100000 in
theorem kw_159 : (Jvm.Cond.fieldLink "PuppetTheatre$Transition" (28 : Nat) "PuppetTheatre$Transition" "variable" "I") ∈ lw_all := pt_all (List.mem_of_getElem? (i := 159) rfl) rfl
set_option maxRecDepth 100000 in
theorem kw_160 : (Jvm.Cond.fieldLink "PuppetTheatre" (136 : Nat) "PuppetTheatre$Transition" "variable" "I") ∈ lw_all := pt_all (List.mem_of_getElem? (i := 160) rfl) rfl
set_option maxRecDepth 100000 in
theorem kw_161 : (Jvm.Cond.fieldLink "PuppetTheatre$Transition" (31 : Nat) "PuppetTheatre$Transition" "bound" "I") ∈ lw_all := pt_all (List.mem_of_getElem? (i := 161) rfl) rfl
set_option maxRecDepth 100000 in
theorem kw_162 : (Jvm.Cond.fieldLink "PuppetTheatre" (139 : Nat) "PuppetTheatre$Transition" "bound" "I") ∈ lw_all := pt_all (List.mem_of_getElem? (i := 162) rfl) rfl
set_option maxRecDepth 100000 in
theorem kw_182 : (Jvm.Cond.fieldLink "PuppetTheatre$Chart" (11 : Nat) "PuppetTheatre$Chart" "states" "[LPuppetTheatre$State;") ∈ lw_all := pt_all (List.mem_of_getElem? (i := 182) rfl) rfl
set_option maxRecDepth 100000 in
theorem kw_183 : (Jvm.Cond.fieldLink "PuppetTheatre" (56 : Nat) "PuppetTheatre$Chart" "states" "[LPuppetTheatre$State;") ∈ lw_all := pt_all (List.mem_of_getElem? (i := 183) rfl) rfl
set_option maxRecDepth 100000 in
theorem kw_184 : (Jvm.Cond.fieldLink "PuppetTheatre$Play" (48 : Nat) "PuppetTheatre$Chart" "states" "[LPuppetTheatre$State;") ∈ lw_all := pt_all (List.mem_of_getElem? (i := 184) rfl) rfl
set_option maxRecDepth 100000 in
theorem kw_185 : (Jvm.Cond.fieldLink "PuppetTheatre$Chart" (19 : Nat) "PuppetTheatre$Chart" "transitions" "[LPuppetTheatre$Transition;") ∈ lw_all := pt_all (List.mem_of_getElem? (i := 185) rfl) rfl
set_option maxRecDepth 100000 in
theorem kw_186 : (Jvm.Cond.fieldLink "PuppetTheatre" (127 : Nat) "PuppetTheatre$Chart" "transitions" "[LPuppetTheatre$Transition;") ∈ lw_all := pt_all (List.mem_of_getElem? (i := 186) rfl) rfl
set_option maxRecDepth 100000 in
theorem kw_187 : (Jvm.Cond.fieldLink "PuppetTheatre$Play" (106 : Nat) "PuppetTheatre$Chart" "transitions" "[LPuppetTheatre$Transition;") ∈ lw_all := pt_all (List.mem_of_getElem? (i := 187) rfl) rfl
set_option maxRecDepth 100000 in
theorem kw_188 : (Jvm.Cond.fieldLink "PuppetTheatre$Chart" (23 : Nat) "PuppetTheatre$Chart" "causedBy" "[I") ∈ lw_all := pt_all (List.mem_of_getElem? (i := 188) rfl) rfl
set_option maxRecDepth 100000 in
theorem kw_189 : (Jvm.Cond.fieldLink "PuppetTheatre$Play" (149 : Nat) "PuppetTheatre$Chart" "causedBy" "[I") ∈ lw_all := pt_all (List.mem_of_getElem? (i := 189) rfl) rfl
set_option maxRecDepth 100000 in
theorem kw_190 : (Jvm.Cond.fieldLink "PuppetTheatre$Chart" (27 : Nat) "PuppetTheatre$Chart" "stateCount" "I") ∈ lw_all := pt_all (List.mem_of_getElem? (i := 190) rfl) rfl
set_option maxRecDepth 100000 in
theorem kw_191 : (Jvm.Cond.fieldLink "PuppetTheatre" (41 : Nat) "PuppetTheatre$Chart" "stateCount" "I") ∈ lw_all := pt_all (List.mem_of_getElem? (i := 191) rfl) rfl
set_option maxRecDepth 100000 in
theorem kw_192 : (Jvm.Cond.fieldLink "PuppetTheatre$Play" (86 : Nat) "PuppetTheatre$Chart" "stateCount" "I") ∈ lw_all := pt_all (List.mem_of_getElem? (i := 192) rfl) rfl
set_option maxRecDepth 100000 in
theorem kw_193 : (Jvm.Cond.fieldLink "PuppetTheatre$Chart" (64 : Nat) "PuppetTheatre$Chart" "transitionCount" "I") ∈ lw_all := pt_all (List.mem_of_getElem? (i := 193) rfl) rfl
set_option maxRecDepth 100000 in
theorem kw_194 : (Jvm.Cond.fieldLink "PuppetTheatre" (111 : Nat) "PuppetTheatre$Chart" "transitionCount" "I") ∈ lw_all := pt_all (List.mem_of_getElem? (i := 194) rfl) rfl
set_option maxRecDepth 100000 in
theorem kw_195 : (Jvm.Cond.fieldLink "PuppetTheatre$Play" (155 : Nat) "PuppetTheatre$Chart" "transitionCount" "I") ∈ lw_all := pt_all (List.mem_of_getElem? (i := 195) rfl) rfl
set_option maxRecDepth 100000 in
theorem kw_196 : (Jvm.Cond.fieldLink "PuppetTheatre$Chart" (35 : Nat) "PuppetTheatre$Chart" "leaves" "I") ∈ lw_all := pt_all (List.mem_of_getElem? (i := 196) rfl) rfl
set_option maxRecDepth 100000 in
theorem kw_197 : (Jvm.Cond.fieldLink "PuppetTheatre$Play" (178 : Nat) "PuppetTheatre$Chart" "leaves" "I") ∈ lw_all := pt_all (List.mem_of_getElem? (i := 197) rfl) rfl
set_option maxRecDepth 100000 in
theorem kw_198 : (Jvm.Cond.fieldLink "PuppetTheatre$Chart" (61 : Nat) "PuppetTheatre$Chart" "ends" "I") ∈ lw_all := pt_all (List.mem_of_getElem? (i := 198) rfl) rfl
set_option maxRecDepth 100000 in
theorem kw_199 : (Jvm.Cond.fieldLink "PuppetTheatre$Play" (59 : Nat) "PuppetTheatre$Chart" "ends" "I") ∈ lw_all := pt_all (List.mem_of_getElem? (i := 199) rfl) rfl
set_option maxRecDepth 100000 in
theorem kw_215 : (Jvm.Cond.classLink "PuppetTheatre" (16 : Nat) "PuppetTheatre$Play") ∈ lw_all := pt_all (List.mem_of_getElem? (i := 215) rfl) rfl
set_option maxRecDepth 100000 in
theorem kw_216 : (Jvm.Cond.instantiable "PuppetTheatre$Play" (11 : Nat)) ∈ lw_all := pt_all (List.mem_of_getElem? (i := 216) rfl) rfl
