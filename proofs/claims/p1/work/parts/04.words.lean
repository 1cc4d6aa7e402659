-- the places of the words
set_option maxRecDepth 100000 in
theorem kw_0 : (Jvm.Cond.selects "PuppetTheatre" ({ cls := "PuppetTheatre", name := "digestOfStates", desc := "(J)J" } : Jvm.MethodName) ({ cls := "PuppetTheatre", name := "digestOfStates", desc := "(J)J" } : Jvm.MethodName)) ∈ lw_all := pt_all (List.mem_of_getElem? (i := 0) rfl) (by decide +kernel)
set_option maxRecDepth 100000 in
theorem kw_1 : (Jvm.Cond.selects "PuppetTheatre" ({ cls := "PuppetTheatre", name := "checkState", desc := "(I)V" } : Jvm.MethodName) ({ cls := "PuppetTheatre", name := "checkState", desc := "(I)V" } : Jvm.MethodName)) ∈ lw_all := pt_all (List.mem_of_getElem? (i := 1) rfl) (by decide +kernel)
set_option maxRecDepth 100000 in
theorem kw_3 : (Jvm.Cond.selects "PuppetTheatre" ({ cls := "PuppetTheatre", name := "checkTransition", desc := "(I)V" } : Jvm.MethodName) ({ cls := "PuppetTheatre", name := "checkTransition", desc := "(I)V" } : Jvm.MethodName)) ∈ lw_all := pt_all (List.mem_of_getElem? (i := 3) rfl) (by decide +kernel)
set_option maxRecDepth 100000 in
theorem kw_4 : (Jvm.Cond.selects "PuppetTheatre" ({ cls := "PuppetTheatre", name := "checkResting", desc := "()V" } : Jvm.MethodName) ({ cls := "PuppetTheatre", name := "checkResting", desc := "()V" } : Jvm.MethodName)) ∈ lw_all := pt_all (List.mem_of_getElem? (i := 4) rfl) (by decide +kernel)
set_option maxRecDepth 100000 in
theorem kw_5 : (Jvm.Cond.selects "PuppetTheatre$Chart" ({ cls := "PuppetTheatre$Chart", name := "scopeOf", desc := "(II)I" } : Jvm.MethodName) ({ cls := "PuppetTheatre$Chart", name := "scopeOf", desc := "(II)I" } : Jvm.MethodName)) ∈ lw_all := pt_all (List.mem_of_getElem? (i := 5) rfl) (by decide +kernel)
set_option maxRecDepth 100000 in
theorem kw_6 : (Jvm.Cond.selects "PuppetTheatre$Play" ({ cls := "PuppetTheatre$Play", name := "act", desc := "(LPuppetTheatre$Action;)V" } : Jvm.MethodName) ({ cls := "PuppetTheatre$Play", name := "act", desc := "(LPuppetTheatre$Action;)V" } : Jvm.MethodName)) ∈ lw_all := pt_all (List.mem_of_getElem? (i := 6) rfl) (by decide +kernel)
set_option maxRecDepth 100000 in
theorem kw_7 : (Jvm.Cond.selects "PuppetTheatre$Play" ({ cls := "PuppetTheatre$Play", name := "raise", desc := "(I)V" } : Jvm.MethodName) ({ cls := "PuppetTheatre$Play", name := "raise", desc := "(I)V" } : Jvm.MethodName)) ∈ lw_all := pt_all (List.mem_of_getElem? (i := 7) rfl) (by decide +kernel)
set_option maxRecDepth 100000 in
theorem kw_8 : (Jvm.Cond.selects "PuppetTheatre$Play" ({ cls := "PuppetTheatre$Play", name := "loseQueue", desc := "()V" } : Jvm.MethodName) ({ cls := "PuppetTheatre$Play", name := "loseQueue", desc := "()V" } : Jvm.MethodName)) ∈ lw_all := pt_all (List.mem_of_getElem? (i := 8) rfl) (by decide +kernel)
set_option maxRecDepth 100000 in
theorem kw_9 : (Jvm.Cond.selects "PuppetTheatre$Play" ({ cls := "PuppetTheatre$Play", name := "growOlder", desc := "()V" } : Jvm.MethodName) ({ cls := "PuppetTheatre$Play", name := "growOlder", desc := "()V" } : Jvm.MethodName)) ∈ lw_all := pt_all (List.mem_of_getElem? (i := 9) rfl) (by decide +kernel)
set_option maxRecDepth 100000 in
theorem kw_10 : (Jvm.Cond.selects "PuppetTheatre$Play" ({ cls := "PuppetTheatre$Play", name := "step", desc := "(I)I" } : Jvm.MethodName) ({ cls := "PuppetTheatre$Play", name := "step", desc := "(I)I" } : Jvm.MethodName)) ∈ lw_all := pt_all (List.mem_of_getElem? (i := 10) rfl) (by decide +kernel)
set_option maxRecDepth 100000 in
theorem kw_11 : (Jvm.Cond.selects "PuppetTheatre$Play" ({ cls := "PuppetTheatre$Play", name := "isOpen", desc := "(LPuppetTheatre$Transition;I)Z" } : Jvm.MethodName) ({ cls := "PuppetTheatre$Play", name := "isOpen", desc := "(LPuppetTheatre$Transition;I)Z" } : Jvm.MethodName)) ∈ lw_all := pt_all (List.mem_of_getElem? (i := 11) rfl) (by decide +kernel)
set_option maxRecDepth 100000 in
theorem kw_12 : (Jvm.Cond.selects "PuppetTheatre$Play" ({ cls := "PuppetTheatre$Play", name := "choose", desc := "(I)V" } : Jvm.MethodName) ({ cls := "PuppetTheatre$Play", name := "choose", desc := "(I)V" } : Jvm.MethodName)) ∈ lw_all := pt_all (List.mem_of_getElem? (i := 12) rfl) (by decide +kernel)
set_option maxRecDepth 100000 in
theorem kw_13 : (Jvm.Cond.selects "PuppetTheatre$Play" ({ cls := "PuppetTheatre$Play", name := "nearestOpen", desc := "(II)I" } : Jvm.MethodName) ({ cls := "PuppetTheatre$Play", name := "nearestOpen", desc := "(II)I" } : Jvm.MethodName)) ∈ lw_all := pt_all (List.mem_of_getElem? (i := 13) rfl) (by decide +kernel)
set_option maxRecDepth 100000 in
theorem kw_14 : (Jvm.Cond.selects "PuppetTheatre$Play" ({ cls := "PuppetTheatre$Play", name := "takeIfFree", desc := "(I)V" } : Jvm.MethodName) ({ cls := "PuppetTheatre$Play", name := "takeIfFree", desc := "(I)V" } : Jvm.MethodName)) ∈ lw_all := pt_all (List.mem_of_getElem? (i := 14) rfl) (by decide +kernel)
set_option maxRecDepth 100000 in
theorem kw_15 : (Jvm.Cond.selects "PuppetTheatre$Play" ({ cls := "PuppetTheatre$Play", name := "leftBy", desc := "(LPuppetTheatre$Transition;)I" } : Jvm.MethodName) ({ cls := "PuppetTheatre$Play", name := "leftBy", desc := "(LPuppetTheatre$Transition;)I" } : Jvm.MethodName)) ∈ lw_all := pt_all (List.mem_of_getElem? (i := 15) rfl) (by decide +kernel)
set_option maxRecDepth 100000 in
theorem kw_16 : (Jvm.Cond.selects "PuppetTheatre$Play" ({ cls := "PuppetTheatre$Play", name := "makeRecords", desc := "(I)V" } : Jvm.MethodName) ({ cls := "PuppetTheatre$Play", name := "makeRecords", desc := "(I)V" } : Jvm.MethodName)) ∈ lw_all := pt_all (List.mem_of_getElem? (i := 16) rfl) (by decide +kernel)
set_option maxRecDepth 100000 in
theorem kw_17 : (Jvm.Cond.selects "PuppetTheatre$Play" ({ cls := "PuppetTheatre$Play", name := "leave", desc := "(I)V" } : Jvm.MethodName) ({ cls := "PuppetTheatre$Play", name := "leave", desc := "(I)V" } : Jvm.MethodName)) ∈ lw_all := pt_all (List.mem_of_getElem? (i := 17) rfl) (by decide +kernel)
set_option maxRecDepth 100000 in
theorem kw_18 : (Jvm.Cond.selects "PuppetTheatre$Play" ({ cls := "PuppetTheatre$Play", name := "targetsOf", desc := "(LPuppetTheatre$Transition;)I" } : Jvm.MethodName) ({ cls := "PuppetTheatre$Play", name := "targetsOf", desc := "(LPuppetTheatre$Transition;)I" } : Jvm.MethodName)) ∈ lw_all := pt_all (List.mem_of_getElem? (i := 18) rfl) (by decide +kernel)
set_option maxRecDepth 100000 in
theorem kw_19 : (Jvm.Cond.selects "PuppetTheatre$Chart" ({ cls := "PuppetTheatre$Chart", name := "partsAside", desc := "(II)I" } : Jvm.MethodName) ({ cls := "PuppetTheatre$Chart", name := "partsAside", desc := "(II)I" } : Jvm.MethodName)) ∈ lw_all := pt_all (List.mem_of_getElem? (i := 19) rfl) (by decide +kernel)
set_option maxRecDepth 100000 in
theorem kw_20 : (Jvm.Cond.selects "PuppetTheatre$Play" ({ cls := "PuppetTheatre$Play", name := "nextEvent", desc := "()I" } : Jvm.MethodName) ({ cls := "PuppetTheatre$Play", name := "nextEvent", desc := "()I" } : Jvm.MethodName)) ∈ lw_all := pt_all (List.mem_of_getElem? (i := 20) rfl) (by decide +kernel)
set_option maxRecDepth 100000 in
theorem kw_21 : (Jvm.Cond.selects "PuppetTheatre" ({ cls := "PuppetTheatre", name := "checkRunning", desc := "()V" } : Jvm.MethodName) ({ cls := "PuppetTheatre", name := "checkRunning", desc := "()V" } : Jvm.MethodName)) ∈ lw_all := pt_all (List.mem_of_getElem? (i := 21) rfl) (by decide +kernel)
set_option maxRecDepth 100000 in
theorem kw_22 : (Jvm.Cond.selects "PuppetTheatre$Look" ({ cls := "PuppetTheatre$Look", name := "isReached", desc := "(II)Z" } : Jvm.MethodName) ({ cls := "PuppetTheatre$Look", name := "isReached", desc := "(II)Z" } : Jvm.MethodName)) ∈ lw_all := pt_all (List.mem_of_getElem? (i := 22) rfl) (by decide +kernel)
set_option maxRecDepth 100000 in
theorem kw_23 : (Jvm.Cond.selects "PuppetTheatre$Look" ({ cls := "PuppetTheatre$Look", name := "writeRow", desc := "(II)V" } : Jvm.MethodName) ({ cls := "PuppetTheatre$Look", name := "writeRow", desc := "(II)V" } : Jvm.MethodName)) ∈ lw_all := pt_all (List.mem_of_getElem? (i := 23) rfl) (by decide +kernel)
set_option maxRecDepth 100000 in
theorem kw_24 : (Jvm.Cond.selects "PuppetTheatre$Look" ({ cls := "PuppetTheatre$Look", name := "keepIfNew", desc := "(II)V" } : Jvm.MethodName) ({ cls := "PuppetTheatre$Look", name := "keepIfNew", desc := "(II)V" } : Jvm.MethodName)) ∈ lw_all := pt_all (List.mem_of_getElem? (i := 24) rfl) (by decide +kernel)
set_option maxRecDepth 100000 in
theorem kw_25 : (Jvm.Cond.selects "java/util/ArrayList" ({ cls := "java/util/ArrayList", name := "add", desc := "(Ljava/lang/Object;[Ljava/lang/Object;I)V" } : Jvm.MethodName) ({ cls := "java/util/ArrayList", name := "add", desc := "(Ljava/lang/Object;[Ljava/lang/Object;I)V" } : Jvm.MethodName)) ∈ lw_all := pt_all (List.mem_of_getElem? (i := 25) rfl) (by decide +kernel)
set_option maxRecDepth 100000 in
theorem kw_26 : (Jvm.Cond.selects "java/util/ArrayList" ({ cls := "java/util/ArrayList", name := "grow", desc := "()[Ljava/lang/Object;" } : Jvm.MethodName) ({ cls := "java/util/ArrayList", name := "grow", desc := "()[Ljava/lang/Object;" } : Jvm.MethodName)) ∈ lw_all := pt_all (List.mem_of_getElem? (i := 26) rfl) (by decide +kernel)
set_option maxRecDepth 100000 in
theorem kw_27 : (Jvm.Cond.selects "java/util/ArrayList" ({ cls := "java/util/ArrayList", name := "grow", desc := "(I)[Ljava/lang/Object;" } : Jvm.MethodName) ({ cls := "java/util/ArrayList", name := "grow", desc := "(I)[Ljava/lang/Object;" } : Jvm.MethodName)) ∈ lw_all := pt_all (List.mem_of_getElem? (i := 27) rfl) (by decide +kernel)
set_option maxRecDepth 100000 in
theorem kw_28 : (Jvm.Cond.selects "PuppetTheatreModel" ({ cls := "PuppetTheatreModel", name := "start", desc := "(ZI)Z" } : Jvm.MethodName) ({ cls := "PuppetTheatreModel", name := "start", desc := "(ZI)Z" } : Jvm.MethodName)) ∈ lw_all := pt_all (List.mem_of_getElem? (i := 28) rfl) (by decide +kernel)
set_option maxRecDepth 100000 in
theorem kw_29 : (Jvm.Cond.selects "PuppetTheatreModel" ({ cls := "PuppetTheatreModel", name := "refuse", desc := "(ZI)Z" } : Jvm.MethodName) ({ cls := "PuppetTheatreModel", name := "refuse", desc := "(ZI)Z" } : Jvm.MethodName)) ∈ lw_all := pt_all (List.mem_of_getElem? (i := 29) rfl) (by decide +kernel)
set_option maxRecDepth 100000 in
theorem kw_30 : (Jvm.Cond.selects "PuppetTheatreModel" ({ cls := "PuppetTheatreModel", name := "isNoState", desc := "(I)Z" } : Jvm.MethodName) ({ cls := "PuppetTheatreModel", name := "isNoState", desc := "(I)Z" } : Jvm.MethodName)) ∈ lw_all := pt_all (List.mem_of_getElem? (i := 30) rfl) (by decide +kernel)
set_option maxRecDepth 100000 in
theorem kw_31 : (Jvm.Cond.selects "PuppetTheatreModel" ({ cls := "PuppetTheatreModel", name := "isNoTransition", desc := "(I)Z" } : Jvm.MethodName) ({ cls := "PuppetTheatreModel", name := "isNoTransition", desc := "(I)Z" } : Jvm.MethodName)) ∈ lw_all := pt_all (List.mem_of_getElem? (i := 31) rfl) (by decide +kernel)
set_option maxRecDepth 100000 in
theorem kw_32 : (Jvm.Cond.selects "PuppetTheatreModel$Run" ({ cls := "PuppetTheatreModel$Run", name := "enter", desc := "(I)V" } : Jvm.MethodName) ({ cls := "PuppetTheatreModel$Run", name := "enter", desc := "(I)V" } : Jvm.MethodName)) ∈ lw_all := pt_all (List.mem_of_getElem? (i := 32) rfl) (by decide +kernel)
set_option maxRecDepth 100000 in
theorem kw_33 : (Jvm.Cond.selects "PuppetTheatreModel$Run" ({ cls := "PuppetTheatreModel$Run", name := "act", desc := "([I)V" } : Jvm.MethodName) ({ cls := "PuppetTheatreModel$Run", name := "act", desc := "([I)V" } : Jvm.MethodName)) ∈ lw_all := pt_all (List.mem_of_getElem? (i := 33) rfl) (by decide +kernel)
set_option maxRecDepth 100000 in
theorem kw_34 : (Jvm.Cond.selects "PuppetTheatreModel$Run" ({ cls := "PuppetTheatreModel$Run", name := "settle", desc := "(I)I" } : Jvm.MethodName) ({ cls := "PuppetTheatreModel$Run", name := "settle", desc := "(I)I" } : Jvm.MethodName)) ∈ lw_all := pt_all (List.mem_of_getElem? (i := 34) rfl) (by decide +kernel)
set_option maxRecDepth 100000 in
theorem kw_35 : (Jvm.Cond.selects "PuppetTheatreModel$Run" ({ cls := "PuppetTheatreModel$Run", name := "step", desc := "(II)I" } : Jvm.MethodName) ({ cls := "PuppetTheatreModel$Run", name := "step", desc := "(II)I" } : Jvm.MethodName)) ∈ lw_all := pt_all (List.mem_of_getElem? (i := 35) rfl) (by decide +kernel)
set_option maxRecDepth 100000 in
theorem kw_36 : (Jvm.Cond.selects "PuppetTheatreModel$Run" ({ cls := "PuppetTheatreModel$Run", name := "taken", desc := "(II)Ljava/util/ArrayList;" } : Jvm.MethodName) ({ cls := "PuppetTheatreModel$Run", name := "taken", desc := "(II)Ljava/util/ArrayList;" } : Jvm.MethodName)) ∈ lw_all := pt_all (List.mem_of_getElem? (i := 36) rfl) (by decide +kernel)
set_option maxRecDepth 100000 in
theorem kw_37 : (Jvm.Cond.selects "PuppetTheatreModel$Run" ({ cls := "PuppetTheatreModel$Run", name := "chosen", desc := "(III)I" } : Jvm.MethodName) ({ cls := "PuppetTheatreModel$Run", name := "chosen", desc := "(III)I" } : Jvm.MethodName)) ∈ lw_all := pt_all (List.mem_of_getElem? (i := 37) rfl) (by decide +kernel)
set_option maxRecDepth 100000 in
theorem kw_44 : (Jvm.Cond.selects "PuppetTheatreModel" ({ cls := "PuppetTheatreModel", name := "plain", desc := "(I)I" } : Jvm.MethodName) ({ cls := "PuppetTheatreModel", name := "plain", desc := "(I)I" } : Jvm.MethodName)) ∈ lw_all := pt_all (List.mem_of_getElem? (i := 44) rfl) (by decide +kernel)
set_option maxRecDepth 100000 in
theorem kw_45 : (Jvm.Cond.selects "PuppetTheatreModel" ({ cls := "PuppetTheatreModel", name := "of", desc := "(II)I" } : Jvm.MethodName) ({ cls := "PuppetTheatreModel", name := "of", desc := "(II)I" } : Jvm.MethodName)) ∈ lw_all := pt_all (List.mem_of_getElem? (i := 45) rfl) (by decide +kernel)
set_option maxRecDepth 100000 in
theorem kw_46 : (Jvm.Cond.selects "PuppetTheatreModel" ({ cls := "PuppetTheatreModel", name := "age", desc := "(I)I" } : Jvm.MethodName) ({ cls := "PuppetTheatreModel", name := "age", desc := "(I)I" } : Jvm.MethodName)) ∈ lw_all := pt_all (List.mem_of_getElem? (i := 46) rfl) (by decide +kernel)
set_option maxRecDepth 100000 in
theorem kw_47 : (Jvm.Cond.selects "PuppetTheatreModel" ({ cls := "PuppetTheatreModel", name := "covers", desc := "()I" } : Jvm.MethodName) ({ cls := "PuppetTheatreModel", name := "covers", desc := "()I" } : Jvm.MethodName)) ∈ lw_all := pt_all (List.mem_of_getElem? (i := 47) rfl) (by decide +kernel)
set_option maxRecDepth 100000 in
theorem kw_48 : (Jvm.Cond.selects "PuppetTheatreModel" ({ cls := "PuppetTheatreModel", name := "isNoEvent", desc := "(I)Z" } : Jvm.MethodName) ({ cls := "PuppetTheatreModel", name := "isNoEvent", desc := "(I)Z" } : Jvm.MethodName)) ∈ lw_all := pt_all (List.mem_of_getElem? (i := 48) rfl) (by decide +kernel)
set_option maxRecDepth 100000 in
theorem kw_50 : (Jvm.Cond.selects "PuppetTheatreModel" ({ cls := "PuppetTheatreModel", name := "rowed", desc := "(I)I" } : Jvm.MethodName) ({ cls := "PuppetTheatreModel", name := "rowed", desc := "(I)I" } : Jvm.MethodName)) ∈ lw_all := pt_all (List.mem_of_getElem? (i := 50) rfl) (by decide +kernel)
set_option maxRecDepth 100000 in
theorem kw_52 : (Jvm.Cond.initialized "PuppetTheatre") ∈ lw_all := pt_all (List.mem_of_getElem? (i := 52) rfl) (by decide +kernel)
set_option maxRecDepth 100000 in
theorem kw_53 : (Jvm.Cond.initialized "PuppetTheatre$Chart") ∈ lw_all := pt_all (List.mem_of_getElem? (i := 53) rfl) (by decide +kernel)
set_option maxRecDepth 100000 in
theorem kw_54 : (Jvm.Cond.initialized "PuppetTheatre$State") ∈ lw_all := pt_all (List.mem_of_getElem? (i := 54) rfl) (by decide +kernel)
set_option maxRecDepth 100000 in
theorem kw_55 : (Jvm.Cond.initialized "PuppetTheatre$Action") ∈ lw_all := pt_all (List.mem_of_getElem? (i := 55) rfl) (by decide +kernel)
set_option maxRecDepth 100000 in
theorem kw_56 : (Jvm.Cond.initialized "PuppetTheatre$Transition") ∈ lw_all := pt_all (List.mem_of_getElem? (i := 56) rfl) (by decide +kernel)
set_option maxRecDepth 100000 in
theorem kw_57 : (Jvm.Cond.initialized "PuppetTheatre$Play") ∈ lw_all := pt_all (List.mem_of_getElem? (i := 57) rfl) (by decide +kernel)
set_option maxRecDepth 100000 in
theorem kw_58 : (Jvm.Cond.initialized "PuppetTheatre$Situation") ∈ lw_all := pt_all (List.mem_of_getElem? (i := 58) rfl) (by decide +kernel)
set_option maxRecDepth 100000 in
theorem kw_59 : (Jvm.Cond.initialized "PuppetTheatre$Look") ∈ lw_all := pt_all (List.mem_of_getElem? (i := 59) rfl) (by decide +kernel)
set_option maxRecDepth 100000 in
theorem kw_60 : (Jvm.Cond.initialized "PuppetTheatreModel") ∈ lw_all := pt_all (List.mem_of_getElem? (i := 60) rfl) (by decide +kernel)
set_option maxRecDepth 100000 in
theorem kw_61 : (Jvm.Cond.initialized "PuppetTheatreModel$Chart") ∈ lw_all := pt_all (List.mem_of_getElem? (i := 61) rfl) (by decide +kernel)
set_option maxRecDepth 100000 in
theorem kw_62 : (Jvm.Cond.initialized "java/util/AbstractCollection") ∈ lw_all := pt_all (List.mem_of_getElem? (i := 62) rfl) (by decide +kernel)
set_option maxRecDepth 100000 in
theorem kw_63 : (Jvm.Cond.initialized "java/util/AbstractList") ∈ lw_all := pt_all (List.mem_of_getElem? (i := 63) rfl) (by decide +kernel)
set_option maxRecDepth 100000 in
theorem kw_64 : (Jvm.Cond.initialized "java/util/ArrayList") ∈ lw_all := pt_all (List.mem_of_getElem? (i := 64) rfl) (by decide +kernel)
set_option maxRecDepth 100000 in
theorem kw_65 : (Jvm.Cond.initialized "PuppetTheatreModel$Run") ∈ lw_all := pt_all (List.mem_of_getElem? (i := 65) rfl) (by decide +kernel)
set_option maxRecDepth 100000 in
theorem kw_66 : (Jvm.Cond.initialized "PuppetTheatreModel$State") ∈ lw_all := pt_all (List.mem_of_getElem? (i := 66) rfl) (by decide +kernel)
set_option maxRecDepth 100000 in
theorem kw_68 : (Jvm.Cond.initialized "java/lang/Math") ∈ lw_all := pt_all (List.mem_of_getElem? (i := 68) rfl) (by decide +kernel)
set_option maxRecDepth 100000 in
theorem kw_70 : (Jvm.Cond.initialized "java/lang/System") ∈ lw_all := pt_all (List.mem_of_getElem? (i := 70) rfl) (by decide +kernel)
set_option maxRecDepth 100000 in
theorem kw_74 : (Jvm.Cond.initialized "java/lang/IllegalStateException") ∈ lw_all := pt_all (List.mem_of_getElem? (i := 74) rfl) (by decide +kernel)
set_option maxRecDepth 100000 in
theorem kw_75 : (Jvm.Cond.initialized "java/lang/IndexOutOfBoundsException") ∈ lw_all := pt_all (List.mem_of_getElem? (i := 75) rfl) (by decide +kernel)
set_option maxRecDepth 100000 in
theorem kw_76 : (Jvm.Cond.initialized "java/lang/IllegalArgumentException") ∈ lw_all := pt_all (List.mem_of_getElem? (i := 76) rfl) (by decide +kernel)
set_option maxRecDepth 100000 in
theorem kw_77 : (Jvm.Cond.initialized "java/util/Objects") ∈ lw_all := pt_all (List.mem_of_getElem? (i := 77) rfl) (by decide +kernel)
set_option maxRecDepth 100000 in
theorem kw_78 : (Jvm.Cond.initialized "jdk/internal/util/Preconditions") ∈ lw_all := pt_all (List.mem_of_getElem? (i := 78) rfl) (by decide +kernel)
set_option maxRecDepth 100000 in
theorem kw_80 : (Jvm.Cond.initialized "java/lang/Integer") ∈ lw_all := pt_all (List.mem_of_getElem? (i := 80) rfl) (by decide +kernel)
set_option maxRecDepth 100000 in
theorem kw_81 : (Jvm.Cond.initialized "PuppetTheatreModel$Transition") ∈ lw_all := pt_all (List.mem_of_getElem? (i := 81) rfl) (by decide +kernel)
set_option maxRecDepth 100000 in
theorem kw_89 : (Jvm.Cond.instanceMethod ({ cls := "java/lang/Object", name := "<init>", desc := "()V" } : Jvm.MethodName)) ∈ lw_all := pt_all (List.mem_of_getElem? (i := 89) rfl) (by decide +kernel)
set_option maxRecDepth 100000 in
theorem kw_90 : (Jvm.Cond.code ({ cls := "java/lang/Object", name := "<init>", desc := "()V" } : Jvm.MethodName) object_method_1_code (1 : Nat) (Option.none : Option Jvm.ClassFile.FieldType)) ∈ lw_all := pt_all (List.mem_of_getElem? (i := 90) rfl) (by decide +kernel)
set_option maxRecDepth 100000 in
theorem kw_101 : (Jvm.Cond.methodLinkNest "PuppetTheatre$Chart" (31 : Nat) ({ cls := "PuppetTheatre", name := "setOf", desc := "(I)I" } : Jvm.MethodName) "PuppetTheatre") ∈ lw_all := pt_all (List.mem_of_getElem? (i := 101) rfl) (by decide +kernel)
set_option maxRecDepth 100000 in
theorem kw_102 : (Jvm.Cond.static ({ cls := "PuppetTheatre", name := "setOf", desc := "(I)I" } : Jvm.MethodName)) ∈ lw_all := pt_all (List.mem_of_getElem? (i := 102) rfl) (by decide +kernel)
set_option maxRecDepth 100000 in
theorem kw_103 : (Jvm.Cond.code ({ cls := "PuppetTheatre", name := "setOf", desc := "(I)I" } : Jvm.MethodName) prog_1_method_48_code (1 : Nat) (Option.some Jvm.ClassFile.FieldType.int)) ∈ lw_all := pt_all (List.mem_of_getElem? (i := 103) rfl) (by decide +kernel)
set_option maxRecDepth 100000 in
theorem kw_115 : (Jvm.Cond.fieldLink "PuppetTheatre$Action" (7 : Nat) "PuppetTheatre$Action" "code" "I") ∈ lw_all := pt_all (List.mem_of_getElem? (i := 115) rfl) (by decide +kernel)
set_option maxRecDepth 100000 in
theorem kw_116 : (Jvm.Cond.fieldLink "PuppetTheatre$Play" (222 : Nat) "PuppetTheatre$Action" "code" "I") ∈ lw_all := pt_all (List.mem_of_getElem? (i := 116) rfl) (by decide +kernel)
set_option maxRecDepth 100000 in
theorem kw_117 : (Jvm.Cond.fieldLink "PuppetTheatre$Action" (13 : Nat) "PuppetTheatre$Action" "what" "I") ∈ lw_all := pt_all (List.mem_of_getElem? (i := 117) rfl) (by decide +kernel)
set_option maxRecDepth 100000 in
theorem kw_118 : (Jvm.Cond.fieldLink "PuppetTheatre$Play" (227 : Nat) "PuppetTheatre$Action" "what" "I") ∈ lw_all := pt_all (List.mem_of_getElem? (i := 118) rfl) (by decide +kernel)
set_option maxRecDepth 100000 in
theorem kw_119 : (Jvm.Cond.fieldLink "PuppetTheatre$Action" (16 : Nat) "PuppetTheatre$Action" "n" "I") ∈ lw_all := pt_all (List.mem_of_getElem? (i := 119) rfl) (by decide +kernel)
set_option maxRecDepth 100000 in
theorem kw_120 : (Jvm.Cond.fieldLink "PuppetTheatre$Play" (230 : Nat) "PuppetTheatre$Action" "n" "I") ∈ lw_all := pt_all (List.mem_of_getElem? (i := 120) rfl) (by decide +kernel)
set_option maxRecDepth 100000 in
theorem kw_128 : (Jvm.Cond.arrayClass Jvm.ClassFile.FieldType.int) ∈ lw_all := pt_all (List.mem_of_getElem? (i := 128) rfl) (by decide +kernel)
set_option maxRecDepth 100000 in
theorem kw_130 : (Jvm.Cond.fieldLink "PuppetTheatre" (102 : Nat) "PuppetTheatre$State" "entering" "LPuppetTheatre$Action;") ∈ lw_all := pt_all (List.mem_of_getElem? (i := 130) rfl) (by decide +kernel)
set_option maxRecDepth 100000 in
theorem kw_131 : (Jvm.Cond.fieldLink "PuppetTheatre$Play" (216 : Nat) "PuppetTheatre$State" "entering" "LPuppetTheatre$Action;") ∈ lw_all := pt_all (List.mem_of_getElem? (i := 131) rfl) (by decide +kernel)
set_option maxRecDepth 100000 in
theorem kw_133 : (Jvm.Cond.fieldLink "PuppetTheatre" (98 : Nat) "PuppetTheatre$State" "leaving" "LPuppetTheatre$Action;") ∈ lw_all := pt_all (List.mem_of_getElem? (i := 133) rfl) (by decide +kernel)
set_option maxRecDepth 100000 in
theorem kw_134 : (Jvm.Cond.fieldLink "PuppetTheatre$Play" (213 : Nat) "PuppetTheatre$State" "leaving" "LPuppetTheatre$Action;") ∈ lw_all := pt_all (List.mem_of_getElem? (i := 134) rfl) (by decide +kernel)
set_option maxRecDepth 100000 in
theorem kw_135 : (Jvm.Cond.fieldLink "PuppetTheatre$State" (21 : Nat) "PuppetTheatre$State" "kind" "I") ∈ lw_all := pt_all (List.mem_of_getElem? (i := 135) rfl) (by decide +kernel)
set_option maxRecDepth 100000 in
theorem kw_136 : (Jvm.Cond.fieldLink "PuppetTheatre$Chart" (40 : Nat) "PuppetTheatre$State" "kind" "I") ∈ lw_all := pt_all (List.mem_of_getElem? (i := 136) rfl) (by decide +kernel)
set_option maxRecDepth 100000 in
theorem kw_137 : (Jvm.Cond.fieldLink "PuppetTheatre" (69 : Nat) "PuppetTheatre$State" "kind" "I") ∈ lw_all := pt_all (List.mem_of_getElem? (i := 137) rfl) (by decide +kernel)
set_option maxRecDepth 100000 in
theorem kw_138 : (Jvm.Cond.fieldLink "PuppetTheatre$Play" (207 : Nat) "PuppetTheatre$State" "kind" "I") ∈ lw_all := pt_all (List.mem_of_getElem? (i := 138) rfl) (by decide +kernel)
set_option maxRecDepth 100000 in
theorem kw_140 : (Jvm.Cond.fieldLink "PuppetTheatre$Chart" (43 : Nat) "PuppetTheatre$State" "parent" "I") ∈ lw_all := pt_all (List.mem_of_getElem? (i := 140) rfl) (by decide +kernel)
set_option maxRecDepth 100000 in
theorem kw_141 : (Jvm.Cond.fieldLink "PuppetTheatre" (184 : Nat) "PuppetTheatre$State" "parent" "I") ∈ lw_all := pt_all (List.mem_of_getElem? (i := 141) rfl) (by decide +kernel)
set_option maxRecDepth 100000 in
theorem kw_142 : (Jvm.Cond.fieldLink "PuppetTheatre$Play" (204 : Nat) "PuppetTheatre$State" "parent" "I") ∈ lw_all := pt_all (List.mem_of_getElem? (i := 142) rfl) (by decide +kernel)
set_option maxRecDepth 100000 in
theorem kw_143 : (Jvm.Cond.fieldLink "PuppetTheatre$State" (28 : Nat) "PuppetTheatre$State" "first" "I") ∈ lw_all := pt_all (List.mem_of_getElem? (i := 143) rfl) (by decide +kernel)
set_option maxRecDepth 100000 in
theorem kw_144 : (Jvm.Cond.fieldLink "PuppetTheatre" (86 : Nat) "PuppetTheatre$State" "first" "I") ∈ lw_all := pt_all (List.mem_of_getElem? (i := 144) rfl) (by decide +kernel)
set_option maxRecDepth 100000 in
theorem kw_145 : (Jvm.Cond.fieldLink "PuppetTheatre$Play" (54 : Nat) "PuppetTheatre$State" "parts" "I") ∈ lw_all := pt_all (List.mem_of_getElem? (i := 145) rfl) (by decide +kernel)
set_option maxRecDepth 100000 in
theorem kw_146 : (Jvm.Cond.fieldLink "PuppetTheatre" (79 : Nat) "PuppetTheatre$State" "parts" "I") ∈ lw_all := pt_all (List.mem_of_getElem? (i := 146) rfl) (by decide +kernel)
set_option maxRecDepth 100000 in
theorem kw_147 : (Jvm.Cond.fieldLink "PuppetTheatre$State" (38 : Nat) "PuppetTheatre$State" "parts" "I") ∈ lw_all := pt_all (List.mem_of_getElem? (i := 147) rfl) (by decide +kernel)
set_option maxRecDepth 100000 in
theorem kw_148 : (Jvm.Cond.fieldLink "PuppetTheatre$Chart" (101 : Nat) "PuppetTheatre$State" "parts" "I") ∈ lw_all := pt_all (List.mem_of_getElem? (i := 148) rfl) (by decide +kernel)
set_option maxRecDepth 100000 in
theorem kw_149 : (Jvm.Cond.fieldLink "PuppetTheatre$State" (35 : Nat) "PuppetTheatre$State" "filledWith" "I") ∈ lw_all := pt_all (List.mem_of_getElem? (i := 149) rfl) (by decide +kernel)
set_option maxRecDepth 100000 in
theorem kw_150 : (Jvm.Cond.fieldLink "PuppetTheatre$Chart" (92 : Nat) "PuppetTheatre$State" "filledWith" "I") ∈ lw_all := pt_all (List.mem_of_getElem? (i := 150) rfl) (by decide +kernel)
set_option maxRecDepth 100000 in
theorem kw_151 : (Jvm.Cond.fieldLink "PuppetTheatre$Play" (219 : Nat) "PuppetTheatre$State" "filledWith" "I") ∈ lw_all := pt_all (List.mem_of_getElem? (i := 151) rfl) (by decide +kernel)
set_option maxRecDepth 100000 in
theorem kw_152 : (Jvm.Cond.fieldLink "PuppetTheatre$Chart" (46 : Nat) "PuppetTheatre$State" "beneath" "I") ∈ lw_all := pt_all (List.mem_of_getElem? (i := 152) rfl) (by decide +kernel)
set_option maxRecDepth 100000 in
theorem kw_153 : (Jvm.Cond.fieldLink "PuppetTheatre$Play" (187 : Nat) "PuppetTheatre$State" "beneath" "I") ∈ lw_all := pt_all (List.mem_of_getElem? (i := 153) rfl) (by decide +kernel)
set_option maxRecDepth 100000 in
theorem kw_154 : (Jvm.Cond.fieldLink "PuppetTheatre$Chart" (86 : Nat) "PuppetTheatre$State" "departing" "I") ∈ lw_all := pt_all (List.mem_of_getElem? (i := 154) rfl) (by decide +kernel)
set_option maxRecDepth 100000 in
theorem kw_155 : (Jvm.Cond.fieldLink "PuppetTheatre$Play" (190 : Nat) "PuppetTheatre$State" "departing" "I") ∈ lw_all := pt_all (List.mem_of_getElem? (i := 155) rfl) (by decide +kernel)
set_option maxRecDepth 100000 in
theorem kw_183 : (Jvm.Cond.fieldLink "PuppetTheatre" (142 : Nat) "PuppetTheatre$Transition" "action" "LPuppetTheatre$Action;") ∈ lw_all := pt_all (List.mem_of_getElem? (i := 183) rfl) (by decide +kernel)
set_option maxRecDepth 100000 in
theorem kw_184 : (Jvm.Cond.fieldLink "PuppetTheatre$Play" (120 : Nat) "PuppetTheatre$Transition" "action" "LPuppetTheatre$Action;") ∈ lw_all := pt_all (List.mem_of_getElem? (i := 184) rfl) (by decide +kernel)
set_option maxRecDepth 100000 in
theorem kw_185 : (Jvm.Cond.fieldLink "PuppetTheatre$Chart" (67 : Nat) "PuppetTheatre$Transition" "from" "I") ∈ lw_all := pt_all (List.mem_of_getElem? (i := 185) rfl) (by decide +kernel)
set_option maxRecDepth 100000 in
theorem kw_186 : (Jvm.Cond.fieldLink "PuppetTheatre$Play" (162 : Nat) "PuppetTheatre$Transition" "from" "I") ∈ lw_all := pt_all (List.mem_of_getElem? (i := 186) rfl) (by decide +kernel)
set_option maxRecDepth 100000 in
theorem kw_187 : (Jvm.Cond.fieldLink "PuppetTheatre$Chart" (70 : Nat) "PuppetTheatre$Transition" "trigger" "I") ∈ lw_all := pt_all (List.mem_of_getElem? (i := 187) rfl) (by decide +kernel)
set_option maxRecDepth 100000 in
theorem kw_188 : (Jvm.Cond.fieldLink "PuppetTheatre$Play" (172 : Nat) "PuppetTheatre$Transition" "trigger" "I") ∈ lw_all := pt_all (List.mem_of_getElem? (i := 188) rfl) (by decide +kernel)
set_option maxRecDepth 100000 in
theorem kw_189 : (Jvm.Cond.fieldLink "PuppetTheatre$Chart" (73 : Nat) "PuppetTheatre$Transition" "n" "I") ∈ lw_all := pt_all (List.mem_of_getElem? (i := 189) rfl) (by decide +kernel)
set_option maxRecDepth 100000 in
theorem kw_190 : (Jvm.Cond.fieldLink "PuppetTheatre$Play" (175 : Nat) "PuppetTheatre$Transition" "n" "I") ∈ lw_all := pt_all (List.mem_of_getElem? (i := 190) rfl) (by decide +kernel)
set_option maxRecDepth 100000 in
theorem kw_192 : (Jvm.Cond.fieldLink "PuppetTheatre$Chart" (76 : Nat) "PuppetTheatre$Transition" "to" "I") ∈ lw_all := pt_all (List.mem_of_getElem? (i := 192) rfl) (by decide +kernel)
set_option maxRecDepth 100000 in
theorem kw_193 : (Jvm.Cond.fieldLink "PuppetTheatre$Play" (130 : Nat) "PuppetTheatre$Transition" "to" "I") ∈ lw_all := pt_all (List.mem_of_getElem? (i := 193) rfl) (by decide +kernel)
set_option maxRecDepth 100000 in
theorem kw_195 : (Jvm.Cond.fieldLink "PuppetTheatre$Chart" (83 : Nat) "PuppetTheatre$Transition" "scope" "I") ∈ lw_all := pt_all (List.mem_of_getElem? (i := 195) rfl) (by decide +kernel)
set_option maxRecDepth 100000 in
theorem kw_196 : (Jvm.Cond.fieldLink "PuppetTheatre$Play" (136 : Nat) "PuppetTheatre$Transition" "scope" "I") ∈ lw_all := pt_all (List.mem_of_getElem? (i := 196) rfl) (by decide +kernel)
set_option maxRecDepth 100000 in
theorem kw_197 : (Jvm.Cond.fieldLink "PuppetTheatre$Transition" (25 : Nat) "PuppetTheatre$Transition" "how" "I") ∈ lw_all := pt_all (List.mem_of_getElem? (i := 197) rfl) (by decide +kernel)
set_option maxRecDepth 100000 in
theorem kw_198 : (Jvm.Cond.fieldLink "PuppetTheatre" (131 : Nat) "PuppetTheatre$Transition" "how" "I") ∈ lw_all := pt_all (List.mem_of_getElem? (i := 198) rfl) (by decide +kernel)
set_option maxRecDepth 100000 in
theorem kw_199 : (Jvm.Cond.fieldLink "PuppetTheatre$Transition" (28 : Nat) "PuppetTheatre$Transition" "variable" "I") ∈ lw_all := pt_all (List.mem_of_getElem? (i := 199) rfl) (by decide +kernel)
set_option maxRecDepth 100000 in
theorem kw_200 : (Jvm.Cond.fieldLink "PuppetTheatre" (136 : Nat) "PuppetTheatre$Transition" "variable" "I") ∈ lw_all := pt_all (List.mem_of_getElem? (i := 200) rfl) (by decide +kernel)
set_option maxRecDepth 100000 in
theorem kw_201 : (Jvm.Cond.fieldLink "PuppetTheatre$Transition" (31 : Nat) "PuppetTheatre$Transition" "bound" "I") ∈ lw_all := pt_all (List.mem_of_getElem? (i := 201) rfl) (by decide +kernel)
set_option maxRecDepth 100000 in
theorem kw_202 : (Jvm.Cond.fieldLink "PuppetTheatre" (139 : Nat) "PuppetTheatre$Transition" "bound" "I") ∈ lw_all := pt_all (List.mem_of_getElem? (i := 202) rfl) (by decide +kernel)
set_option maxRecDepth 100000 in
theorem kw_222 : (Jvm.Cond.fieldLink "PuppetTheatre$Chart" (11 : Nat) "PuppetTheatre$Chart" "states" "[LPuppetTheatre$State;") ∈ lw_all := pt_all (List.mem_of_getElem? (i := 222) rfl) (by decide +kernel)
set_option maxRecDepth 100000 in
theorem kw_223 : (Jvm.Cond.fieldLink "PuppetTheatre" (56 : Nat) "PuppetTheatre$Chart" "states" "[LPuppetTheatre$State;") ∈ lw_all := pt_all (List.mem_of_getElem? (i := 223) rfl) (by decide +kernel)
set_option maxRecDepth 100000 in
theorem kw_224 : (Jvm.Cond.fieldLink "PuppetTheatre$Play" (48 : Nat) "PuppetTheatre$Chart" "states" "[LPuppetTheatre$State;") ∈ lw_all := pt_all (List.mem_of_getElem? (i := 224) rfl) (by decide +kernel)
set_option maxRecDepth 100000 in
theorem kw_225 : (Jvm.Cond.fieldLink "PuppetTheatre$Chart" (19 : Nat) "PuppetTheatre$Chart" "transitions" "[LPuppetTheatre$Transition;") ∈ lw_all := pt_all (List.mem_of_getElem? (i := 225) rfl) (by decide +kernel)
set_option maxRecDepth 100000 in
theorem kw_226 : (Jvm.Cond.fieldLink "PuppetTheatre" (127 : Nat) "PuppetTheatre$Chart" "transitions" "[LPuppetTheatre$Transition;") ∈ lw_all := pt_all (List.mem_of_getElem? (i := 226) rfl) (by decide +kernel)
set_option maxRecDepth 100000 in
theorem kw_227 : (Jvm.Cond.fieldLink "PuppetTheatre$Play" (106 : Nat) "PuppetTheatre$Chart" "transitions" "[LPuppetTheatre$Transition;") ∈ lw_all := pt_all (List.mem_of_getElem? (i := 227) rfl) (by decide +kernel)
set_option maxRecDepth 100000 in
theorem kw_228 : (Jvm.Cond.fieldLink "PuppetTheatre$Chart" (23 : Nat) "PuppetTheatre$Chart" "causedBy" "[I") ∈ lw_all := pt_all (List.mem_of_getElem? (i := 228) rfl) (by decide +kernel)
set_option maxRecDepth 100000 in
theorem kw_229 : (Jvm.Cond.fieldLink "PuppetTheatre$Play" (149 : Nat) "PuppetTheatre$Chart" "causedBy" "[I") ∈ lw_all := pt_all (List.mem_of_getElem? (i := 229) rfl) (by decide +kernel)
set_option maxRecDepth 100000 in
theorem kw_230 : (Jvm.Cond.fieldLink "PuppetTheatre$Chart" (27 : Nat) "PuppetTheatre$Chart" "stateCount" "I") ∈ lw_all := pt_all (List.mem_of_getElem? (i := 230) rfl) (by decide +kernel)
set_option maxRecDepth 100000 in
theorem kw_231 : (Jvm.Cond.fieldLink "PuppetTheatre" (41 : Nat) "PuppetTheatre$Chart" "stateCount" "I") ∈ lw_all := pt_all (List.mem_of_getElem? (i := 231) rfl) (by decide +kernel)
set_option maxRecDepth 100000 in
theorem kw_232 : (Jvm.Cond.fieldLink "PuppetTheatre$Play" (86 : Nat) "PuppetTheatre$Chart" "stateCount" "I") ∈ lw_all := pt_all (List.mem_of_getElem? (i := 232) rfl) (by decide +kernel)
set_option maxRecDepth 100000 in
theorem kw_233 : (Jvm.Cond.fieldLink "PuppetTheatre$Chart" (64 : Nat) "PuppetTheatre$Chart" "transitionCount" "I") ∈ lw_all := pt_all (List.mem_of_getElem? (i := 233) rfl) (by decide +kernel)
set_option maxRecDepth 100000 in
theorem kw_234 : (Jvm.Cond.fieldLink "PuppetTheatre" (111 : Nat) "PuppetTheatre$Chart" "transitionCount" "I") ∈ lw_all := pt_all (List.mem_of_getElem? (i := 234) rfl) (by decide +kernel)
set_option maxRecDepth 100000 in
theorem kw_235 : (Jvm.Cond.fieldLink "PuppetTheatre$Play" (155 : Nat) "PuppetTheatre$Chart" "transitionCount" "I") ∈ lw_all := pt_all (List.mem_of_getElem? (i := 235) rfl) (by decide +kernel)
set_option maxRecDepth 100000 in
theorem kw_236 : (Jvm.Cond.fieldLink "PuppetTheatre$Chart" (35 : Nat) "PuppetTheatre$Chart" "leaves" "I") ∈ lw_all := pt_all (List.mem_of_getElem? (i := 236) rfl) (by decide +kernel)
set_option maxRecDepth 100000 in
theorem kw_237 : (Jvm.Cond.fieldLink "PuppetTheatre$Play" (178 : Nat) "PuppetTheatre$Chart" "leaves" "I") ∈ lw_all := pt_all (List.mem_of_getElem? (i := 237) rfl) (by decide +kernel)
set_option maxRecDepth 100000 in
theorem kw_238 : (Jvm.Cond.fieldLink "PuppetTheatre$Chart" (61 : Nat) "PuppetTheatre$Chart" "ends" "I") ∈ lw_all := pt_all (List.mem_of_getElem? (i := 238) rfl) (by decide +kernel)
set_option maxRecDepth 100000 in
theorem kw_239 : (Jvm.Cond.fieldLink "PuppetTheatre$Play" (59 : Nat) "PuppetTheatre$Chart" "ends" "I") ∈ lw_all := pt_all (List.mem_of_getElem? (i := 239) rfl) (by decide +kernel)
set_option maxRecDepth 100000 in
theorem kw_267 : (Jvm.Cond.fieldLink "PuppetTheatre$Situation" (9 : Nat) "PuppetTheatre$Situation" "ages" "[I") ∈ lw_all := pt_all (List.mem_of_getElem? (i := 267) rfl) (by decide +kernel)
set_option maxRecDepth 100000 in
theorem kw_268 : (Jvm.Cond.fieldLink "PuppetTheatre$Play" (93 : Nat) "PuppetTheatre$Situation" "ages" "[I") ∈ lw_all := pt_all (List.mem_of_getElem? (i := 268) rfl) (by decide +kernel)
set_option maxRecDepth 100000 in
theorem kw_269 : (Jvm.Cond.fieldLink "PuppetTheatre" (193 : Nat) "PuppetTheatre$Situation" "ages" "[I") ∈ lw_all := pt_all (List.mem_of_getElem? (i := 269) rfl) (by decide +kernel)
set_option maxRecDepth 100000 in
theorem kw_270 : (Jvm.Cond.fieldLink "PuppetTheatre$Situation" (15 : Nat) "PuppetTheatre$Situation" "records" "[I") ∈ lw_all := pt_all (List.mem_of_getElem? (i := 270) rfl) (by decide +kernel)
set_option maxRecDepth 100000 in
theorem kw_271 : (Jvm.Cond.fieldLink "PuppetTheatre$Play" (210 : Nat) "PuppetTheatre$Situation" "records" "[I") ∈ lw_all := pt_all (List.mem_of_getElem? (i := 271) rfl) (by decide +kernel)
set_option maxRecDepth 100000 in
theorem kw_272 : (Jvm.Cond.fieldLink "PuppetTheatre" (197 : Nat) "PuppetTheatre$Situation" "records" "[I") ∈ lw_all := pt_all (List.mem_of_getElem? (i := 272) rfl) (by decide +kernel)
set_option maxRecDepth 100000 in
theorem kw_273 : (Jvm.Cond.fieldLink "PuppetTheatre$Situation" (18 : Nat) "PuppetTheatre$Situation" "variables" "[I") ∈ lw_all := pt_all (List.mem_of_getElem? (i := 273) rfl) (by decide +kernel)
set_option maxRecDepth 100000 in
theorem kw_274 : (Jvm.Cond.fieldLink "PuppetTheatre$Play" (165 : Nat) "PuppetTheatre$Situation" "variables" "[I") ∈ lw_all := pt_all (List.mem_of_getElem? (i := 274) rfl) (by decide +kernel)
set_option maxRecDepth 100000 in
theorem kw_275 : (Jvm.Cond.fieldLink "PuppetTheatre" (203 : Nat) "PuppetTheatre$Situation" "variables" "[I") ∈ lw_all := pt_all (List.mem_of_getElem? (i := 275) rfl) (by decide +kernel)
set_option maxRecDepth 100000 in
theorem kw_276 : (Jvm.Cond.fieldLink "PuppetTheatre$Situation" (21 : Nat) "PuppetTheatre$Situation" "active" "I") ∈ lw_all := pt_all (List.mem_of_getElem? (i := 276) rfl) (by decide +kernel)
set_option maxRecDepth 100000 in
theorem kw_277 : (Jvm.Cond.fieldLink "PuppetTheatre$Look" (42 : Nat) "PuppetTheatre$Situation" "active" "I") ∈ lw_all := pt_all (List.mem_of_getElem? (i := 277) rfl) (by decide +kernel)
set_option maxRecDepth 100000 in
theorem kw_278 : (Jvm.Cond.fieldLink "PuppetTheatre$Play" (62 : Nat) "PuppetTheatre$Situation" "active" "I") ∈ lw_all := pt_all (List.mem_of_getElem? (i := 278) rfl) (by decide +kernel)
set_option maxRecDepth 100000 in
theorem kw_279 : (Jvm.Cond.fieldLink "PuppetTheatre" (168 : Nat) "PuppetTheatre$Situation" "active" "I") ∈ lw_all := pt_all (List.mem_of_getElem? (i := 279) rfl) (by decide +kernel)
set_option maxRecDepth 100000 in
theorem kw_289 : (Jvm.Cond.fieldLink "PuppetTheatre$Play" (28 : Nat) "PuppetTheatre$Play" "chart" "LPuppetTheatre$Chart;") ∈ lw_all := pt_all (List.mem_of_getElem? (i := 289) rfl) (by decide +kernel)
set_option maxRecDepth 100000 in
theorem kw_290 : (Jvm.Cond.fieldLink "PuppetTheatre$Play" (12 : Nat) "PuppetTheatre$Play" "situation" "LPuppetTheatre$Situation;") ∈ lw_all := pt_all (List.mem_of_getElem? (i := 290) rfl) (by decide +kernel)
set_option maxRecDepth 100000 in
theorem kw_291 : (Jvm.Cond.fieldLink "PuppetTheatre$Look" (56 : Nat) "PuppetTheatre$Play" "situation" "LPuppetTheatre$Situation;") ∈ lw_all := pt_all (List.mem_of_getElem? (i := 291) rfl) (by decide +kernel)
set_option maxRecDepth 100000 in
theorem kw_292 : (Jvm.Cond.fieldLink "PuppetTheatre" (164 : Nat) "PuppetTheatre$Play" "situation" "LPuppetTheatre$Situation;") ∈ lw_all := pt_all (List.mem_of_getElem? (i := 292) rfl) (by decide +kernel)
set_option maxRecDepth 100000 in
theorem kw_293 : (Jvm.Cond.fieldLink "PuppetTheatre$Play" (18 : Nat) "PuppetTheatre$Play" "fired" "[I") ∈ lw_all := pt_all (List.mem_of_getElem? (i := 293) rfl) (by decide +kernel)
set_option maxRecDepth 100000 in
theorem kw_294 : (Jvm.Cond.fieldLink "PuppetTheatre" (209 : Nat) "PuppetTheatre$Play" "fired" "[I") ∈ lw_all := pt_all (List.mem_of_getElem? (i := 294) rfl) (by decide +kernel)
set_option maxRecDepth 100000 in
theorem kw_295 : (Jvm.Cond.fieldLink "PuppetTheatre$Look" (76 : Nat) "PuppetTheatre$Play" "firedLast" "I") ∈ lw_all := pt_all (List.mem_of_getElem? (i := 295) rfl) (by decide +kernel)
set_option maxRecDepth 100000 in
theorem kw_296 : (Jvm.Cond.fieldLink "PuppetTheatre$Play" (65 : Nat) "PuppetTheatre$Play" "firedLast" "I") ∈ lw_all := pt_all (List.mem_of_getElem? (i := 296) rfl) (by decide +kernel)
set_option maxRecDepth 100000 in
theorem kw_297 : (Jvm.Cond.fieldLink "PuppetTheatre$Play" (35 : Nat) "PuppetTheatre$Play" "clock" "I") ∈ lw_all := pt_all (List.mem_of_getElem? (i := 297) rfl) (by decide +kernel)
set_option maxRecDepth 100000 in
theorem kw_298 : (Jvm.Cond.fieldLink "PuppetTheatre" (206 : Nat) "PuppetTheatre$Play" "clock" "I") ∈ lw_all := pt_all (List.mem_of_getElem? (i := 298) rfl) (by decide +kernel)
set_option maxRecDepth 100000 in
theorem kw_299 : (Jvm.Cond.fieldLink "PuppetTheatre$Play" (39 : Nat) "PuppetTheatre$Play" "lost" "I") ∈ lw_all := pt_all (List.mem_of_getElem? (i := 299) rfl) (by decide +kernel)
set_option maxRecDepth 100000 in
theorem kw_300 : (Jvm.Cond.fieldLink "PuppetTheatre" (212 : Nat) "PuppetTheatre$Play" "lost" "I") ∈ lw_all := pt_all (List.mem_of_getElem? (i := 300) rfl) (by decide +kernel)
set_option maxRecDepth 100000 in
theorem kw_301 : (Jvm.Cond.fieldLink "PuppetTheatre$Play" (42 : Nat) "PuppetTheatre$Play" "restless" "I") ∈ lw_all := pt_all (List.mem_of_getElem? (i := 301) rfl) (by decide +kernel)
set_option maxRecDepth 100000 in
theorem kw_302 : (Jvm.Cond.fieldLink "PuppetTheatre" (215 : Nat) "PuppetTheatre$Play" "restless" "I") ∈ lw_all := pt_all (List.mem_of_getElem? (i := 302) rfl) (by decide +kernel)
set_option maxRecDepth 100000 in
theorem kw_303 : (Jvm.Cond.fieldLink "PuppetTheatre$Play" (22 : Nat) "PuppetTheatre$Play" "queue" "[I") ∈ lw_all := pt_all (List.mem_of_getElem? (i := 303) rfl) (by decide +kernel)
set_option maxRecDepth 100000 in
theorem kw_304 : (Jvm.Cond.fieldLink "PuppetTheatre$Play" (45 : Nat) "PuppetTheatre$Play" "queued" "I") ∈ lw_all := pt_all (List.mem_of_getElem? (i := 304) rfl) (by decide +kernel)
set_option maxRecDepth 100000 in
theorem kw_305 : (Jvm.Cond.fieldLink "PuppetTheatre$Play" (25 : Nat) "PuppetTheatre$Play" "taken" "[I") ∈ lw_all := pt_all (List.mem_of_getElem? (i := 305) rfl) (by decide +kernel)
set_option maxRecDepth 100000 in
theorem kw_306 : (Jvm.Cond.fieldLink "PuppetTheatre$Play" (103 : Nat) "PuppetTheatre$Play" "takenCount" "I") ∈ lw_all := pt_all (List.mem_of_getElem? (i := 306) rfl) (by decide +kernel)
set_option maxRecDepth 100000 in
theorem kw_339 : (Jvm.Cond.fieldLink "PuppetTheatre$Look" (9 : Nat) "PuppetTheatre$Look" "row" "[I") ∈ lw_all := pt_all (List.mem_of_getElem? (i := 339) rfl) (by decide +kernel)
set_option maxRecDepth 100000 in
theorem kw_340 : (Jvm.Cond.fieldLink "PuppetTheatre" (235 : Nat) "PuppetTheatre$Look" "row" "[I") ∈ lw_all := pt_all (List.mem_of_getElem? (i := 340) rfl) (by decide +kernel)
set_option maxRecDepth 100000 in
theorem kw_341 : (Jvm.Cond.fieldLink "PuppetTheatre$Look" (35 : Nat) "PuppetTheatre$Look" "rowLength" "I") ∈ lw_all := pt_all (List.mem_of_getElem? (i := 341) rfl) (by decide +kernel)
set_option maxRecDepth 100000 in
theorem kw_342 : (Jvm.Cond.fieldLink "PuppetTheatre" (232 : Nat) "PuppetTheatre$Look" "rowLength" "I") ∈ lw_all := pt_all (List.mem_of_getElem? (i := 342) rfl) (by decide +kernel)
set_option maxRecDepth 100000 in
theorem kw_343 : (Jvm.Cond.fieldLink "PuppetTheatre$Look" (39 : Nat) "PuppetTheatre$Look" "lookedAt" "I") ∈ lw_all := pt_all (List.mem_of_getElem? (i := 343) rfl) (by decide +kernel)
set_option maxRecDepth 100000 in
theorem kw_344 : (Jvm.Cond.fieldLink "PuppetTheatre" (238 : Nat) "PuppetTheatre$Look" "lookedAt" "I") ∈ lw_all := pt_all (List.mem_of_getElem? (i := 344) rfl) (by decide +kernel)
set_option maxRecDepth 100000 in
theorem kw_345 : (Jvm.Cond.fieldLink "PuppetTheatre$Look" (30 : Nat) "PuppetTheatre$Look" "trial" "LPuppetTheatre$Play;") ∈ lw_all := pt_all (List.mem_of_getElem? (i := 345) rfl) (by decide +kernel)
set_option maxRecDepth 100000 in
theorem kw_346 : (Jvm.Cond.fieldLink "PuppetTheatre$Look" (17 : Nat) "PuppetTheatre$Look" "found" "[LPuppetTheatre$Situation;") ∈ lw_all := pt_all (List.mem_of_getElem? (i := 346) rfl) (by decide +kernel)
set_option maxRecDepth 100000 in
theorem kw_347 : (Jvm.Cond.fieldLink "PuppetTheatre$Look" (21 : Nat) "PuppetTheatre$Look" "origin" "[I") ∈ lw_all := pt_all (List.mem_of_getElem? (i := 347) rfl) (by decide +kernel)
set_option maxRecDepth 100000 in
theorem kw_348 : (Jvm.Cond.fieldLink "PuppetTheatre$Look" (24 : Nat) "PuppetTheatre$Look" "byCall" "[I") ∈ lw_all := pt_all (List.mem_of_getElem? (i := 348) rfl) (by decide +kernel)
set_option maxRecDepth 100000 in
theorem kw_349 : (Jvm.Cond.fieldLink "PuppetTheatre$Look" (27 : Nat) "PuppetTheatre$Look" "calls" "[I") ∈ lw_all := pt_all (List.mem_of_getElem? (i := 349) rfl) (by decide +kernel)
set_option maxRecDepth 100000 in
theorem kw_350 : (Jvm.Cond.fieldLink "PuppetTheatre$Look" (53 : Nat) "PuppetTheatre$Look" "foundCount" "I") ∈ lw_all := pt_all (List.mem_of_getElem? (i := 350) rfl) (by decide +kernel)
set_option maxRecDepth 100000 in
theorem kw_370 : (Jvm.Cond.fieldLink "PuppetTheatre" (10 : Nat) "PuppetTheatre" "chart" "LPuppetTheatre$Chart;") ∈ lw_all := pt_all (List.mem_of_getElem? (i := 370) rfl) (by decide +kernel)
set_option maxRecDepth 100000 in
theorem kw_371 : (Jvm.Cond.fieldLink "PuppetTheatre" (21 : Nat) "PuppetTheatre" "play" "LPuppetTheatre$Play;") ∈ lw_all := pt_all (List.mem_of_getElem? (i := 371) rfl) (by decide +kernel)
set_option maxRecDepth 100000 in
theorem kw_372 : (Jvm.Cond.fieldLink "PuppetTheatre" (25 : Nat) "PuppetTheatre" "trial" "LPuppetTheatre$Play;") ∈ lw_all := pt_all (List.mem_of_getElem? (i := 372) rfl) (by decide +kernel)
set_option maxRecDepth 100000 in
theorem kw_373 : (Jvm.Cond.fieldLink "PuppetTheatre" (33 : Nat) "PuppetTheatre" "look" "LPuppetTheatre$Look;") ∈ lw_all := pt_all (List.mem_of_getElem? (i := 373) rfl) (by decide +kernel)
set_option maxRecDepth 100000 in
theorem kw_374 : (Jvm.Cond.fieldLink "PuppetTheatre" (37 : Nat) "PuppetTheatre" "running" "Z") ∈ lw_all := pt_all (List.mem_of_getElem? (i := 374) rfl) (by decide +kernel)
set_option maxRecDepth 100000 in
theorem kw_387 : (Jvm.Cond.instanceMethod ({ cls := "PuppetTheatre", name := "states", desc := "()I" } : Jvm.MethodName)) ∈ lw_all := pt_all (List.mem_of_getElem? (i := 387) rfl) (by decide +kernel)
set_option maxRecDepth 100000 in
theorem kw_388 : (Jvm.Cond.selects "PuppetTheatre" ({ cls := "PuppetTheatre", name := "states", desc := "()I" } : Jvm.MethodName) ({ cls := "PuppetTheatre", name := "states", desc := "()I" } : Jvm.MethodName)) ∈ lw_all := pt_all (List.mem_of_getElem? (i := 388) rfl) (by decide +kernel)
set_option maxRecDepth 100000 in
theorem kw_389 : (Jvm.Cond.code ({ cls := "PuppetTheatre", name := "states", desc := "()I" } : Jvm.MethodName) prog_1_method_12_code (1 : Nat) (Option.some Jvm.ClassFile.FieldType.int)) ∈ lw_all := pt_all (List.mem_of_getElem? (i := 389) rfl) (by decide +kernel)
set_option maxRecDepth 100000 in
theorem kw_391 : (Jvm.Cond.instanceMethod ({ cls := "PuppetTheatre", name := "transitions", desc := "()I" } : Jvm.MethodName)) ∈ lw_all := pt_all (List.mem_of_getElem? (i := 391) rfl) (by decide +kernel)
set_option maxRecDepth 100000 in
theorem kw_392 : (Jvm.Cond.selects "PuppetTheatre" ({ cls := "PuppetTheatre", name := "transitions", desc := "()I" } : Jvm.MethodName) ({ cls := "PuppetTheatre", name := "transitions", desc := "()I" } : Jvm.MethodName)) ∈ lw_all := pt_all (List.mem_of_getElem? (i := 392) rfl) (by decide +kernel)
set_option maxRecDepth 100000 in
theorem kw_393 : (Jvm.Cond.code ({ cls := "PuppetTheatre", name := "transitions", desc := "()I" } : Jvm.MethodName) prog_1_method_13_code (1 : Nat) (Option.some Jvm.ClassFile.FieldType.int)) ∈ lw_all := pt_all (List.mem_of_getElem? (i := 393) rfl) (by decide +kernel)
set_option maxRecDepth 100000 in
theorem kw_395 : (Jvm.Cond.instanceMethod ({ cls := "PuppetTheatre", name := "isRunning", desc := "()Z" } : Jvm.MethodName)) ∈ lw_all := pt_all (List.mem_of_getElem? (i := 395) rfl) (by decide +kernel)
set_option maxRecDepth 100000 in
theorem kw_396 : (Jvm.Cond.selects "PuppetTheatre" ({ cls := "PuppetTheatre", name := "isRunning", desc := "()Z" } : Jvm.MethodName) ({ cls := "PuppetTheatre", name := "isRunning", desc := "()Z" } : Jvm.MethodName)) ∈ lw_all := pt_all (List.mem_of_getElem? (i := 396) rfl) (by decide +kernel)
set_option maxRecDepth 100000 in
theorem kw_397 : (Jvm.Cond.code ({ cls := "PuppetTheatre", name := "isRunning", desc := "()Z" } : Jvm.MethodName) prog_1_method_15_code (1 : Nat) (Option.some Jvm.ClassFile.FieldType.boolean)) ∈ lw_all := pt_all (List.mem_of_getElem? (i := 397) rfl) (by decide +kernel)
set_option maxRecDepth 100000 in
theorem kw_399 : (Jvm.Cond.instanceMethod ({ cls := "PuppetTheatre", name := "active", desc := "()I" } : Jvm.MethodName)) ∈ lw_all := pt_all (List.mem_of_getElem? (i := 399) rfl) (by decide +kernel)
set_option maxRecDepth 100000 in
theorem kw_400 : (Jvm.Cond.selects "PuppetTheatre" ({ cls := "PuppetTheatre", name := "active", desc := "()I" } : Jvm.MethodName) ({ cls := "PuppetTheatre", name := "active", desc := "()I" } : Jvm.MethodName)) ∈ lw_all := pt_all (List.mem_of_getElem? (i := 400) rfl) (by decide +kernel)
set_option maxRecDepth 100000 in
theorem kw_401 : (Jvm.Cond.code ({ cls := "PuppetTheatre", name := "active", desc := "()I" } : Jvm.MethodName) prog_1_method_16_code (1 : Nat) (Option.some Jvm.ClassFile.FieldType.int)) ∈ lw_all := pt_all (List.mem_of_getElem? (i := 401) rfl) (by decide +kernel)
set_option maxRecDepth 100000 in
theorem kw_403 : (Jvm.Cond.instanceMethod ({ cls := "PuppetTheatre", name := "isOver", desc := "()Z" } : Jvm.MethodName)) ∈ lw_all := pt_all (List.mem_of_getElem? (i := 403) rfl) (by decide +kernel)
set_option maxRecDepth 100000 in
theorem kw_404 : (Jvm.Cond.selects "PuppetTheatre" ({ cls := "PuppetTheatre", name := "isOver", desc := "()Z" } : Jvm.MethodName) ({ cls := "PuppetTheatre", name := "isOver", desc := "()Z" } : Jvm.MethodName)) ∈ lw_all := pt_all (List.mem_of_getElem? (i := 404) rfl) (by decide +kernel)
set_option maxRecDepth 100000 in
theorem kw_405 : (Jvm.Cond.code ({ cls := "PuppetTheatre", name := "isOver", desc := "()Z" } : Jvm.MethodName) prog_1_method_17_code (1 : Nat) (Option.some Jvm.ClassFile.FieldType.boolean)) ∈ lw_all := pt_all (List.mem_of_getElem? (i := 405) rfl) (by decide +kernel)
set_option maxRecDepth 100000 in
theorem kw_406 : (Jvm.Cond.methodLink "PuppetTheatre" (187 : Nat) ({ cls := "PuppetTheatre$Play", name := "isAtEnd", desc := "()Z" } : Jvm.MethodName)) ∈ lw_all := pt_all (List.mem_of_getElem? (i := 406) rfl) (by decide +kernel)
set_option maxRecDepth 100000 in
theorem kw_407 : (Jvm.Cond.instanceMethod ({ cls := "PuppetTheatre$Play", name := "isAtEnd", desc := "()Z" } : Jvm.MethodName)) ∈ lw_all := pt_all (List.mem_of_getElem? (i := 407) rfl) (by decide +kernel)
set_option maxRecDepth 100000 in
theorem kw_408 : (Jvm.Cond.selects "PuppetTheatre$Play" ({ cls := "PuppetTheatre$Play", name := "isAtEnd", desc := "()Z" } : Jvm.MethodName) ({ cls := "PuppetTheatre$Play", name := "isAtEnd", desc := "()Z" } : Jvm.MethodName)) ∈ lw_all := pt_all (List.mem_of_getElem? (i := 408) rfl) (by decide +kernel)
set_option maxRecDepth 100000 in
theorem kw_409 : (Jvm.Cond.code ({ cls := "PuppetTheatre$Play", name := "isAtEnd", desc := "()Z" } : Jvm.MethodName) prog_5_method_3_code (1 : Nat) (Option.some Jvm.ClassFile.FieldType.boolean)) ∈ lw_all := pt_all (List.mem_of_getElem? (i := 409) rfl) (by decide +kernel)
set_option maxRecDepth 100000 in
theorem kw_411 : (Jvm.Cond.instanceMethod ({ cls := "PuppetTheatre", name := "clock", desc := "()I" } : Jvm.MethodName)) ∈ lw_all := pt_all (List.mem_of_getElem? (i := 411) rfl) (by decide +kernel)
set_option maxRecDepth 100000 in
theorem kw_412 : (Jvm.Cond.selects "PuppetTheatre" ({ cls := "PuppetTheatre", name := "clock", desc := "()I" } : Jvm.MethodName) ({ cls := "PuppetTheatre", name := "clock", desc := "()I" } : Jvm.MethodName)) ∈ lw_all := pt_all (List.mem_of_getElem? (i := 412) rfl) (by decide +kernel)
set_option maxRecDepth 100000 in
theorem kw_413 : (Jvm.Cond.code ({ cls := "PuppetTheatre", name := "clock", desc := "()I" } : Jvm.MethodName) prog_1_method_22_code (1 : Nat) (Option.some Jvm.ClassFile.FieldType.int)) ∈ lw_all := pt_all (List.mem_of_getElem? (i := 413) rfl) (by decide +kernel)
set_option maxRecDepth 100000 in
theorem kw_415 : (Jvm.Cond.instanceMethod ({ cls := "PuppetTheatre", name := "covered", desc := "()I" } : Jvm.MethodName)) ∈ lw_all := pt_all (List.mem_of_getElem? (i := 415) rfl) (by decide +kernel)
set_option maxRecDepth 100000 in
theorem kw_416 : (Jvm.Cond.selects "PuppetTheatre" ({ cls := "PuppetTheatre", name := "covered", desc := "()I" } : Jvm.MethodName) ({ cls := "PuppetTheatre", name := "covered", desc := "()I" } : Jvm.MethodName)) ∈ lw_all := pt_all (List.mem_of_getElem? (i := 416) rfl) (by decide +kernel)
set_option maxRecDepth 100000 in
theorem kw_417 : (Jvm.Cond.code ({ cls := "PuppetTheatre", name := "covered", desc := "()I" } : Jvm.MethodName) prog_1_method_24_code (3 : Nat) (Option.some Jvm.ClassFile.FieldType.int)) ∈ lw_all := pt_all (List.mem_of_getElem? (i := 417) rfl) (by decide +kernel)
set_option maxRecDepth 100000 in
theorem kw_419 : (Jvm.Cond.instanceMethod ({ cls := "PuppetTheatre", name := "lost", desc := "()I" } : Jvm.MethodName)) ∈ lw_all := pt_all (List.mem_of_getElem? (i := 419) rfl) (by decide +kernel)
set_option maxRecDepth 100000 in
theorem kw_420 : (Jvm.Cond.selects "PuppetTheatre" ({ cls := "PuppetTheatre", name := "lost", desc := "()I" } : Jvm.MethodName) ({ cls := "PuppetTheatre", name := "lost", desc := "()I" } : Jvm.MethodName)) ∈ lw_all := pt_all (List.mem_of_getElem? (i := 420) rfl) (by decide +kernel)
set_option maxRecDepth 100000 in
theorem kw_421 : (Jvm.Cond.code ({ cls := "PuppetTheatre", name := "lost", desc := "()I" } : Jvm.MethodName) prog_1_method_25_code (1 : Nat) (Option.some Jvm.ClassFile.FieldType.int)) ∈ lw_all := pt_all (List.mem_of_getElem? (i := 421) rfl) (by decide +kernel)
set_option maxRecDepth 100000 in
theorem kw_423 : (Jvm.Cond.instanceMethod ({ cls := "PuppetTheatre", name := "restless", desc := "()I" } : Jvm.MethodName)) ∈ lw_all := pt_all (List.mem_of_getElem? (i := 423) rfl) (by decide +kernel)
set_option maxRecDepth 100000 in
theorem kw_424 : (Jvm.Cond.selects "PuppetTheatre" ({ cls := "PuppetTheatre", name := "restless", desc := "()I" } : Jvm.MethodName) ({ cls := "PuppetTheatre", name := "restless", desc := "()I" } : Jvm.MethodName)) ∈ lw_all := pt_all (List.mem_of_getElem? (i := 424) rfl) (by decide +kernel)
set_option maxRecDepth 100000 in
theorem kw_425 : (Jvm.Cond.code ({ cls := "PuppetTheatre", name := "restless", desc := "()I" } : Jvm.MethodName) prog_1_method_26_code (1 : Nat) (Option.some Jvm.ClassFile.FieldType.int)) ∈ lw_all := pt_all (List.mem_of_getElem? (i := 425) rfl) (by decide +kernel)
set_option maxRecDepth 100000 in
theorem kw_427 : (Jvm.Cond.instanceMethod ({ cls := "PuppetTheatre", name := "rowAt", desc := "(I)I" } : Jvm.MethodName)) ∈ lw_all := pt_all (List.mem_of_getElem? (i := 427) rfl) (by decide +kernel)
set_option maxRecDepth 100000 in
theorem kw_428 : (Jvm.Cond.selects "PuppetTheatre" ({ cls := "PuppetTheatre", name := "rowAt", desc := "(I)I" } : Jvm.MethodName) ({ cls := "PuppetTheatre", name := "rowAt", desc := "(I)I" } : Jvm.MethodName)) ∈ lw_all := pt_all (List.mem_of_getElem? (i := 428) rfl) (by decide +kernel)
set_option maxRecDepth 100000 in
theorem kw_429 : (Jvm.Cond.code ({ cls := "PuppetTheatre", name := "rowAt", desc := "(I)I" } : Jvm.MethodName) prog_1_method_32_code (2 : Nat) (Option.some Jvm.ClassFile.FieldType.int)) ∈ lw_all := pt_all (List.mem_of_getElem? (i := 429) rfl) (by decide +kernel)
set_option maxRecDepth 100000 in
theorem kw_430 : (Jvm.Cond.methodLink "PuppetTheatre" (52 : Nat) ({ cls := "PuppetTheatre", name := "isWithin", desc := "(III)Z" } : Jvm.MethodName)) ∈ lw_all := pt_all (List.mem_of_getElem? (i := 430) rfl) (by decide +kernel)
set_option maxRecDepth 100000 in
theorem kw_431 : (Jvm.Cond.static ({ cls := "PuppetTheatre", name := "isWithin", desc := "(III)Z" } : Jvm.MethodName)) ∈ lw_all := pt_all (List.mem_of_getElem? (i := 431) rfl) (by decide +kernel)
set_option maxRecDepth 100000 in
theorem kw_432 : (Jvm.Cond.code ({ cls := "PuppetTheatre", name := "isWithin", desc := "(III)Z" } : Jvm.MethodName) prog_1_method_47_code (3 : Nat) (Option.some Jvm.ClassFile.FieldType.boolean)) ∈ lw_all := pt_all (List.mem_of_getElem? (i := 432) rfl) (by decide +kernel)
set_option maxRecDepth 100000 in
theorem kw_434 : (Jvm.Cond.instanceMethod ({ cls := "PuppetTheatre", name := "looked", desc := "()I" } : Jvm.MethodName)) ∈ lw_all := pt_all (List.mem_of_getElem? (i := 434) rfl) (by decide +kernel)
set_option maxRecDepth 100000 in
theorem kw_435 : (Jvm.Cond.selects "PuppetTheatre" ({ cls := "PuppetTheatre", name := "looked", desc := "()I" } : Jvm.MethodName) ({ cls := "PuppetTheatre", name := "looked", desc := "()I" } : Jvm.MethodName)) ∈ lw_all := pt_all (List.mem_of_getElem? (i := 435) rfl) (by decide +kernel)
set_option maxRecDepth 100000 in
theorem kw_436 : (Jvm.Cond.code ({ cls := "PuppetTheatre", name := "looked", desc := "()I" } : Jvm.MethodName) prog_1_method_33_code (1 : Nat) (Option.some Jvm.ClassFile.FieldType.int)) ∈ lw_all := pt_all (List.mem_of_getElem? (i := 436) rfl) (by decide +kernel)
set_option maxRecDepth 100000 in
theorem kw_440 : (Jvm.Cond.code ({ cls := "PuppetTheatre", name := "meanAge", desc := "()D" } : Jvm.MethodName) prog_1_method_34_code (4 : Nat) (Option.some Jvm.ClassFile.FieldType.double)) ∈ lw_all := pt_all (List.mem_of_getElem? (i := 440) rfl) (by decide +kernel)
set_option maxRecDepth 100000 in
theorem kw_441 : (Jvm.Cond.methodLink "PuppetTheatre" (173 : Nat) ({ cls := "java/lang/Integer", name := "bitCount", desc := "(I)I" } : Jvm.MethodName)) ∈ lw_all := pt_all (List.mem_of_getElem? (i := 441) rfl) (by decide +kernel)
set_option maxRecDepth 100000 in
theorem kw_442 : (Jvm.Cond.static ({ cls := "java/lang/Integer", name := "bitCount", desc := "(I)I" } : Jvm.MethodName)) ∈ lw_all := pt_all (List.mem_of_getElem? (i := 442) rfl) (by decide +kernel)
set_option maxRecDepth 100000 in
theorem kw_443 : (Jvm.Cond.code ({ cls := "java/lang/Integer", name := "bitCount", desc := "(I)I" } : Jvm.MethodName) prog_22_method_49_code (1 : Nat) (Option.some Jvm.ClassFile.FieldType.int)) ∈ lw_all := pt_all (List.mem_of_getElem? (i := 443) rfl) (by decide +kernel)
set_option maxRecDepth 100000 in
theorem kw_444 : (Jvm.Cond.constant "java/lang/Integer" (265 : Nat) (1431655765 : Int32)) ∈ lw_all := pt_all (List.mem_of_getElem? (i := 444) rfl) (by decide +kernel)
set_option maxRecDepth 100000 in
theorem kw_445 : (Jvm.Cond.constant "java/lang/Integer" (266 : Nat) (858993459 : Int32)) ∈ lw_all := pt_all (List.mem_of_getElem? (i := 445) rfl) (by decide +kernel)
set_option maxRecDepth 100000 in
theorem kw_446 : (Jvm.Cond.constant "java/lang/Integer" (267 : Nat) (252645135 : Int32)) ∈ lw_all := pt_all (List.mem_of_getElem? (i := 446) rfl) (by decide +kernel)
set_option maxRecDepth 100000 in
theorem kw_447 : (Jvm.Cond.methodLink "PuppetTheatre" (82 : Nat) ({ cls := "PuppetTheatre", name := "has", desc := "(II)Z" } : Jvm.MethodName)) ∈ lw_all := pt_all (List.mem_of_getElem? (i := 447) rfl) (by decide +kernel)
set_option maxRecDepth 100000 in
theorem kw_448 : (Jvm.Cond.static ({ cls := "PuppetTheatre", name := "has", desc := "(II)Z" } : Jvm.MethodName)) ∈ lw_all := pt_all (List.mem_of_getElem? (i := 448) rfl) (by decide +kernel)
set_option maxRecDepth 100000 in
theorem kw_449 : (Jvm.Cond.code ({ cls := "PuppetTheatre", name := "has", desc := "(II)Z" } : Jvm.MethodName) prog_1_method_49_code (2 : Nat) (Option.some Jvm.ClassFile.FieldType.boolean)) ∈ lw_all := pt_all (List.mem_of_getElem? (i := 449) rfl) (by decide +kernel)
set_option maxRecDepth 100000 in
theorem kw_453 : (Jvm.Cond.code ({ cls := "PuppetTheatre", name := "digest", desc := "()J" } : Jvm.MethodName) prog_1_method_35_code (4 : Nat) (Option.some Jvm.ClassFile.FieldType.long)) ∈ lw_all := pt_all (List.mem_of_getElem? (i := 453) rfl) (by decide +kernel)
set_option maxRecDepth 100000 in
theorem kw_454 : (Jvm.Cond.constantLong "PuppetTheatre" (241 : Nat) (58059 : Int64)) ∈ lw_all := pt_all (List.mem_of_getElem? (i := 454) rfl) (by decide +kernel)
set_option maxRecDepth 100000 in
theorem kw_455 : (Jvm.Cond.constantLong "PuppetTheatre" (243 : Nat) (31 : Int64)) ∈ lw_all := pt_all (List.mem_of_getElem? (i := 455) rfl) (by decide +kernel)
set_option maxRecDepth 100000 in
theorem kw_456 : (Jvm.Cond.methodLink "PuppetTheatre" (245 : Nat) ({ cls := "PuppetTheatre", name := "states", desc := "()I" } : Jvm.MethodName)) ∈ lw_all := pt_all (List.mem_of_getElem? (i := 456) rfl) (by decide +kernel)
set_option maxRecDepth 100000 in
theorem kw_457 : (Jvm.Cond.methodLink "PuppetTheatre" (248 : Nat) ({ cls := "PuppetTheatre", name := "transitions", desc := "()I" } : Jvm.MethodName)) ∈ lw_all := pt_all (List.mem_of_getElem? (i := 457) rfl) (by decide +kernel)
set_option maxRecDepth 100000 in
theorem kw_458 : (Jvm.Cond.methodLink "PuppetTheatre" (250 : Nat) ({ cls := "PuppetTheatre", name := "isRunning", desc := "()Z" } : Jvm.MethodName)) ∈ lw_all := pt_all (List.mem_of_getElem? (i := 458) rfl) (by decide +kernel)
set_option maxRecDepth 100000 in
theorem kw_459 : (Jvm.Cond.methodLink "PuppetTheatre" (253 : Nat) ({ cls := "PuppetTheatre", name := "active", desc := "()I" } : Jvm.MethodName)) ∈ lw_all := pt_all (List.mem_of_getElem? (i := 459) rfl) (by decide +kernel)
set_option maxRecDepth 100000 in
theorem kw_460 : (Jvm.Cond.methodLink "PuppetTheatre" (255 : Nat) ({ cls := "PuppetTheatre", name := "isOver", desc := "()Z" } : Jvm.MethodName)) ∈ lw_all := pt_all (List.mem_of_getElem? (i := 460) rfl) (by decide +kernel)
set_option maxRecDepth 100000 in
theorem kw_461 : (Jvm.Cond.methodLink "PuppetTheatre" (258 : Nat) ({ cls := "PuppetTheatre", name := "clock", desc := "()I" } : Jvm.MethodName)) ∈ lw_all := pt_all (List.mem_of_getElem? (i := 461) rfl) (by decide +kernel)
set_option maxRecDepth 100000 in
theorem kw_462 : (Jvm.Cond.methodLink "PuppetTheatre" (260 : Nat) ({ cls := "PuppetTheatre", name := "covered", desc := "()I" } : Jvm.MethodName)) ∈ lw_all := pt_all (List.mem_of_getElem? (i := 462) rfl) (by decide +kernel)
set_option maxRecDepth 100000 in
theorem kw_463 : (Jvm.Cond.methodLink "PuppetTheatre" (263 : Nat) ({ cls := "PuppetTheatre", name := "lost", desc := "()I" } : Jvm.MethodName)) ∈ lw_all := pt_all (List.mem_of_getElem? (i := 463) rfl) (by decide +kernel)
set_option maxRecDepth 100000 in
theorem kw_464 : (Jvm.Cond.methodLink "PuppetTheatre" (265 : Nat) ({ cls := "PuppetTheatre", name := "restless", desc := "()I" } : Jvm.MethodName)) ∈ lw_all := pt_all (List.mem_of_getElem? (i := 464) rfl) (by decide +kernel)
set_option maxRecDepth 100000 in
theorem kw_465 : (Jvm.Cond.methodLink "PuppetTheatre" (267 : Nat) ({ cls := "PuppetTheatre", name := "looked", desc := "()I" } : Jvm.MethodName)) ∈ lw_all := pt_all (List.mem_of_getElem? (i := 465) rfl) (by decide +kernel)
set_option maxRecDepth 100000 in
theorem kw_466 : (Jvm.Cond.methodLink "PuppetTheatre" (270 : Nat) ({ cls := "PuppetTheatre", name := "digestOfStates", desc := "(J)J" } : Jvm.MethodName)) ∈ lw_all := pt_all (List.mem_of_getElem? (i := 466) rfl) (by decide +kernel)
set_option maxRecDepth 100000 in
theorem kw_468 : (Jvm.Cond.instanceMethod ({ cls := "PuppetTheatre", name := "digestOfStates", desc := "(J)J" } : Jvm.MethodName)) ∈ lw_all := pt_all (List.mem_of_getElem? (i := 468) rfl) (by decide +kernel)
set_option maxRecDepth 100000 in
theorem kw_469 : (Jvm.Cond.code ({ cls := "PuppetTheatre", name := "digestOfStates", desc := "(J)J" } : Jvm.MethodName) prog_1_method_36_code (8 : Nat) (Option.some Jvm.ClassFile.FieldType.long)) ∈ lw_all := pt_all (List.mem_of_getElem? (i := 469) rfl) (by decide +kernel)
set_option maxRecDepth 100000 in
theorem kw_470 : (Jvm.Cond.methodLink "PuppetTheatre" (190 : Nat) ({ cls := "PuppetTheatre$Chart", name := "endedAmong", desc := "(I)I" } : Jvm.MethodName)) ∈ lw_all := pt_all (List.mem_of_getElem? (i := 470) rfl) (by decide +kernel)
set_option maxRecDepth 100000 in
theorem kw_471 : (Jvm.Cond.instanceMethod ({ cls := "PuppetTheatre$Chart", name := "endedAmong", desc := "(I)I" } : Jvm.MethodName)) ∈ lw_all := pt_all (List.mem_of_getElem? (i := 471) rfl) (by decide +kernel)
set_option maxRecDepth 100000 in
theorem kw_472 : (Jvm.Cond.selects "PuppetTheatre$Chart" ({ cls := "PuppetTheatre$Chart", name := "endedAmong", desc := "(I)I" } : Jvm.MethodName) ({ cls := "PuppetTheatre$Chart", name := "endedAmong", desc := "(I)I" } : Jvm.MethodName)) ∈ lw_all := pt_all (List.mem_of_getElem? (i := 472) rfl) (by decide +kernel)
set_option maxRecDepth 100000 in
theorem kw_473 : (Jvm.Cond.code ({ cls := "PuppetTheatre$Chart", name := "endedAmong", desc := "(I)I" } : Jvm.MethodName) prog_3_method_9_code (7 : Nat) (Option.some Jvm.ClassFile.FieldType.int)) ∈ lw_all := pt_all (List.mem_of_getElem? (i := 473) rfl) (by decide +kernel)
set_option maxRecDepth 100000 in
theorem kw_474 : (Jvm.Cond.methodLink "PuppetTheatre" (281 : Nat) ({ cls := "PuppetTheatre", name := "ofState", desc := "(II)I" } : Jvm.MethodName)) ∈ lw_all := pt_all (List.mem_of_getElem? (i := 474) rfl) (by decide +kernel)
set_option maxRecDepth 100000 in
theorem kw_475 : (Jvm.Cond.instanceMethod ({ cls := "PuppetTheatre", name := "ofState", desc := "(II)I" } : Jvm.MethodName)) ∈ lw_all := pt_all (List.mem_of_getElem? (i := 475) rfl) (by decide +kernel)
set_option maxRecDepth 100000 in
theorem kw_476 : (Jvm.Cond.selects "PuppetTheatre" ({ cls := "PuppetTheatre", name := "ofState", desc := "(II)I" } : Jvm.MethodName) ({ cls := "PuppetTheatre", name := "ofState", desc := "(II)I" } : Jvm.MethodName)) ∈ lw_all := pt_all (List.mem_of_getElem? (i := 476) rfl) (by decide +kernel)
set_option maxRecDepth 100000 in
theorem kw_477 : (Jvm.Cond.code ({ cls := "PuppetTheatre", name := "ofState", desc := "(II)I" } : Jvm.MethodName) prog_1_method_14_code (4 : Nat) (Option.some Jvm.ClassFile.FieldType.int)) ∈ lw_all := pt_all (List.mem_of_getElem? (i := 477) rfl) (by decide +kernel)
set_option maxRecDepth 100000 in
theorem kw_478 : (Jvm.Cond.methodLink "PuppetTheatre" (48 : Nat) ({ cls := "PuppetTheatre", name := "checkState", desc := "(I)V" } : Jvm.MethodName)) ∈ lw_all := pt_all (List.mem_of_getElem? (i := 478) rfl) (by decide +kernel)
set_option maxRecDepth 100000 in
theorem kw_480 : (Jvm.Cond.instanceMethod ({ cls := "PuppetTheatre", name := "checkState", desc := "(I)V" } : Jvm.MethodName)) ∈ lw_all := pt_all (List.mem_of_getElem? (i := 480) rfl) (by decide +kernel)
set_option maxRecDepth 100000 in
theorem kw_481 : (Jvm.Cond.code ({ cls := "PuppetTheatre", name := "checkState", desc := "(I)V" } : Jvm.MethodName) prog_1_method_39_code (2 : Nat) (Option.none : Option Jvm.ClassFile.FieldType)) ∈ lw_all := pt_all (List.mem_of_getElem? (i := 481) rfl) (by decide +kernel)
set_option maxRecDepth 100000 in
theorem kw_482 : (Jvm.Cond.classLink "PuppetTheatre" (200 : Nat) "java/lang/IndexOutOfBoundsException") ∈ lw_all := pt_all (List.mem_of_getElem? (i := 482) rfl) (by decide +kernel)
set_option maxRecDepth 100000 in
theorem kw_545 : (Jvm.Cond.classLink "PuppetTheatre" (66 : Nat) "java/lang/IllegalArgumentException") ∈ lw_all := pt_all (List.mem_of_getElem? (i := 545) rfl) (by decide +kernel)
set_option maxRecDepth 100000 in
theorem kw_560 : (Jvm.Cond.methodLink "PuppetTheatre" (284 : Nat) ({ cls := "PuppetTheatre", name := "ageOf", desc := "(I)I" } : Jvm.MethodName)) ∈ lw_all := pt_all (List.mem_of_getElem? (i := 560) rfl) (by decide +kernel)
set_option maxRecDepth 100000 in
theorem kw_561 : (Jvm.Cond.instanceMethod ({ cls := "PuppetTheatre", name := "ageOf", desc := "(I)I" } : Jvm.MethodName)) ∈ lw_all := pt_all (List.mem_of_getElem? (i := 561) rfl) (by decide +kernel)
set_option maxRecDepth 100000 in
theorem kw_562 : (Jvm.Cond.selects "PuppetTheatre" ({ cls := "PuppetTheatre", name := "ageOf", desc := "(I)I" } : Jvm.MethodName) ({ cls := "PuppetTheatre", name := "ageOf", desc := "(I)I" } : Jvm.MethodName)) ∈ lw_all := pt_all (List.mem_of_getElem? (i := 562) rfl) (by decide +kernel)
set_option maxRecDepth 100000 in
theorem kw_563 : (Jvm.Cond.code ({ cls := "PuppetTheatre", name := "ageOf", desc := "(I)I" } : Jvm.MethodName) prog_1_method_19_code (2 : Nat) (Option.some Jvm.ClassFile.FieldType.int)) ∈ lw_all := pt_all (List.mem_of_getElem? (i := 563) rfl) (by decide +kernel)
set_option maxRecDepth 100000 in
theorem kw_564 : (Jvm.Cond.methodLink "PuppetTheatre" (92 : Nat) ({ cls := "PuppetTheatre$State", name := "isMark", desc := "()Z" } : Jvm.MethodName)) ∈ lw_all := pt_all (List.mem_of_getElem? (i := 564) rfl) (by decide +kernel)
set_option maxRecDepth 100000 in
theorem kw_565 : (Jvm.Cond.instanceMethod ({ cls := "PuppetTheatre$State", name := "isMark", desc := "()Z" } : Jvm.MethodName)) ∈ lw_all := pt_all (List.mem_of_getElem? (i := 565) rfl) (by decide +kernel)
set_option maxRecDepth 100000 in
theorem kw_566 : (Jvm.Cond.selects "PuppetTheatre$State" ({ cls := "PuppetTheatre$State", name := "isMark", desc := "()Z" } : Jvm.MethodName) ({ cls := "PuppetTheatre$State", name := "isMark", desc := "()Z" } : Jvm.MethodName)) ∈ lw_all := pt_all (List.mem_of_getElem? (i := 566) rfl) (by decide +kernel)
set_option maxRecDepth 100000 in
theorem kw_567 : (Jvm.Cond.code ({ cls := "PuppetTheatre$State", name := "isMark", desc := "()Z" } : Jvm.MethodName) prog_7_method_2_code (1 : Nat) (Option.some Jvm.ClassFile.FieldType.boolean)) ∈ lw_all := pt_all (List.mem_of_getElem? (i := 567) rfl) (by decide +kernel)
set_option maxRecDepth 100000 in
theorem kw_568 : (Jvm.Cond.methodLink "PuppetTheatre" (287 : Nat) ({ cls := "PuppetTheatre", name := "record", desc := "(I)I" } : Jvm.MethodName)) ∈ lw_all := pt_all (List.mem_of_getElem? (i := 568) rfl) (by decide +kernel)
set_option maxRecDepth 100000 in
theorem kw_569 : (Jvm.Cond.instanceMethod ({ cls := "PuppetTheatre", name := "record", desc := "(I)I" } : Jvm.MethodName)) ∈ lw_all := pt_all (List.mem_of_getElem? (i := 569) rfl) (by decide +kernel)
set_option maxRecDepth 100000 in
theorem kw_570 : (Jvm.Cond.selects "PuppetTheatre" ({ cls := "PuppetTheatre", name := "record", desc := "(I)I" } : Jvm.MethodName) ({ cls := "PuppetTheatre", name := "record", desc := "(I)I" } : Jvm.MethodName)) ∈ lw_all := pt_all (List.mem_of_getElem? (i := 570) rfl) (by decide +kernel)
set_option maxRecDepth 100000 in
theorem kw_571 : (Jvm.Cond.code ({ cls := "PuppetTheatre", name := "record", desc := "(I)I" } : Jvm.MethodName) prog_1_method_20_code (2 : Nat) (Option.some Jvm.ClassFile.FieldType.int)) ∈ lw_all := pt_all (List.mem_of_getElem? (i := 571) rfl) (by decide +kernel)
set_option maxRecDepth 100000 in
theorem kw_572 : (Jvm.Cond.methodLink "PuppetTheatre" (274 : Nat) ({ cls := "PuppetTheatre", name := "variable", desc := "(I)I" } : Jvm.MethodName)) ∈ lw_all := pt_all (List.mem_of_getElem? (i := 572) rfl) (by decide +kernel)
set_option maxRecDepth 100000 in
theorem kw_573 : (Jvm.Cond.instanceMethod ({ cls := "PuppetTheatre", name := "variable", desc := "(I)I" } : Jvm.MethodName)) ∈ lw_all := pt_all (List.mem_of_getElem? (i := 573) rfl) (by decide +kernel)
set_option maxRecDepth 100000 in
theorem kw_574 : (Jvm.Cond.selects "PuppetTheatre" ({ cls := "PuppetTheatre", name := "variable", desc := "(I)I" } : Jvm.MethodName) ({ cls := "PuppetTheatre", name := "variable", desc := "(I)I" } : Jvm.MethodName)) ∈ lw_all := pt_all (List.mem_of_getElem? (i := 574) rfl) (by decide +kernel)
set_option maxRecDepth 100000 in
theorem kw_575 : (Jvm.Cond.code ({ cls := "PuppetTheatre", name := "variable", desc := "(I)I" } : Jvm.MethodName) prog_1_method_21_code (2 : Nat) (Option.some Jvm.ClassFile.FieldType.int)) ∈ lw_all := pt_all (List.mem_of_getElem? (i := 575) rfl) (by decide +kernel)
set_option maxRecDepth 100000 in
theorem kw_576 : (Jvm.Cond.methodLink "PuppetTheatre" (276 : Nat) ({ cls := "PuppetTheatre", name := "fired", desc := "(I)I" } : Jvm.MethodName)) ∈ lw_all := pt_all (List.mem_of_getElem? (i := 576) rfl) (by decide +kernel)
set_option maxRecDepth 100000 in
theorem kw_577 : (Jvm.Cond.instanceMethod ({ cls := "PuppetTheatre", name := "fired", desc := "(I)I" } : Jvm.MethodName)) ∈ lw_all := pt_all (List.mem_of_getElem? (i := 577) rfl) (by decide +kernel)
set_option maxRecDepth 100000 in
theorem kw_578 : (Jvm.Cond.selects "PuppetTheatre" ({ cls := "PuppetTheatre", name := "fired", desc := "(I)I" } : Jvm.MethodName) ({ cls := "PuppetTheatre", name := "fired", desc := "(I)I" } : Jvm.MethodName)) ∈ lw_all := pt_all (List.mem_of_getElem? (i := 578) rfl) (by decide +kernel)
set_option maxRecDepth 100000 in
theorem kw_579 : (Jvm.Cond.code ({ cls := "PuppetTheatre", name := "fired", desc := "(I)I" } : Jvm.MethodName) prog_1_method_23_code (2 : Nat) (Option.some Jvm.ClassFile.FieldType.int)) ∈ lw_all := pt_all (List.mem_of_getElem? (i := 579) rfl) (by decide +kernel)
set_option maxRecDepth 100000 in
theorem kw_580 : (Jvm.Cond.methodLink "PuppetTheatre" (121 : Nat) ({ cls := "PuppetTheatre", name := "checkTransition", desc := "(I)V" } : Jvm.MethodName)) ∈ lw_all := pt_all (List.mem_of_getElem? (i := 580) rfl) (by decide +kernel)
set_option maxRecDepth 100000 in
theorem kw_582 : (Jvm.Cond.instanceMethod ({ cls := "PuppetTheatre", name := "checkTransition", desc := "(I)V" } : Jvm.MethodName)) ∈ lw_all := pt_all (List.mem_of_getElem? (i := 582) rfl) (by decide +kernel)
set_option maxRecDepth 100000 in
theorem kw_583 : (Jvm.Cond.code ({ cls := "PuppetTheatre", name := "checkTransition", desc := "(I)V" } : Jvm.MethodName) prog_1_method_40_code (2 : Nat) (Option.none : Option Jvm.ClassFile.FieldType)) ∈ lw_all := pt_all (List.mem_of_getElem? (i := 583) rfl) (by decide +kernel)
set_option maxRecDepth 100000 in
theorem kw_584 : (Jvm.Cond.methodLink "PuppetTheatre" (278 : Nat) ({ cls := "PuppetTheatre", name := "rowAt", desc := "(I)I" } : Jvm.MethodName)) ∈ lw_all := pt_all (List.mem_of_getElem? (i := 584) rfl) (by decide +kernel)
set_option maxRecDepth 100000 in
theorem kw_594 : (Jvm.Cond.code ({ cls := "PuppetTheatre", name := "addState", desc := "(II)I" } : Jvm.MethodName) prog_1_method_2_code (3 : Nat) (Option.some Jvm.ClassFile.FieldType.int)) ∈ lw_all := pt_all (List.mem_of_getElem? (i := 594) rfl) (by decide +kernel)
set_option maxRecDepth 100000 in
theorem kw_595 : (Jvm.Cond.classLink "PuppetTheatre" (45 : Nat) "java/lang/IllegalStateException") ∈ lw_all := pt_all (List.mem_of_getElem? (i := 595) rfl) (by decide +kernel)
set_option maxRecDepth 100000 in
theorem kw_610 : (Jvm.Cond.methodLink "PuppetTheatre" (60 : Nat) ({ cls := "PuppetTheatre$State", name := "isHolder", desc := "()Z" } : Jvm.MethodName)) ∈ lw_all := pt_all (List.mem_of_getElem? (i := 610) rfl) (by decide +kernel)
set_option maxRecDepth 100000 in
theorem kw_611 : (Jvm.Cond.instanceMethod ({ cls := "PuppetTheatre$State", name := "isHolder", desc := "()Z" } : Jvm.MethodName)) ∈ lw_all := pt_all (List.mem_of_getElem? (i := 611) rfl) (by decide +kernel)
set_option maxRecDepth 100000 in
theorem kw_612 : (Jvm.Cond.selects "PuppetTheatre$State" ({ cls := "PuppetTheatre$State", name := "isHolder", desc := "()Z" } : Jvm.MethodName) ({ cls := "PuppetTheatre$State", name := "isHolder", desc := "()Z" } : Jvm.MethodName)) ∈ lw_all := pt_all (List.mem_of_getElem? (i := 612) rfl) (by decide +kernel)
set_option maxRecDepth 100000 in
theorem kw_613 : (Jvm.Cond.code ({ cls := "PuppetTheatre$State", name := "isHolder", desc := "()Z" } : Jvm.MethodName) prog_7_method_3_code (1 : Nat) (Option.some Jvm.ClassFile.FieldType.boolean)) ∈ lw_all := pt_all (List.mem_of_getElem? (i := 613) rfl) (by decide +kernel)
set_option maxRecDepth 100000 in
theorem kw_614 : (Jvm.Cond.methodLink "PuppetTheatre" (72 : Nat) ({ cls := "PuppetTheatre$Chart", name := "putState", desc := "(II)I" } : Jvm.MethodName)) ∈ lw_all := pt_all (List.mem_of_getElem? (i := 614) rfl) (by decide +kernel)
set_option maxRecDepth 100000 in
theorem kw_615 : (Jvm.Cond.instanceMethod ({ cls := "PuppetTheatre$Chart", name := "putState", desc := "(II)I" } : Jvm.MethodName)) ∈ lw_all := pt_all (List.mem_of_getElem? (i := 615) rfl) (by decide +kernel)
set_option maxRecDepth 100000 in
theorem kw_616 : (Jvm.Cond.selects "PuppetTheatre$Chart" ({ cls := "PuppetTheatre$Chart", name := "putState", desc := "(II)I" } : Jvm.MethodName) ({ cls := "PuppetTheatre$Chart", name := "putState", desc := "(II)I" } : Jvm.MethodName)) ∈ lw_all := pt_all (List.mem_of_getElem? (i := 616) rfl) (by decide +kernel)
set_option maxRecDepth 100000 in
theorem kw_617 : (Jvm.Cond.code ({ cls := "PuppetTheatre$Chart", name := "putState", desc := "(II)I" } : Jvm.MethodName) prog_3_method_2_code (6 : Nat) (Option.some Jvm.ClassFile.FieldType.int)) ∈ lw_all := pt_all (List.mem_of_getElem? (i := 617) rfl) (by decide +kernel)
set_option maxRecDepth 100000 in
theorem kw_618 : (Jvm.Cond.methodLinkNest "PuppetTheatre$Chart" (49 : Nat) ({ cls := "PuppetTheatre", name := "has", desc := "(II)Z" } : Jvm.MethodName) "PuppetTheatre") ∈ lw_all := pt_all (List.mem_of_getElem? (i := 618) rfl) (by decide +kernel)
set_option maxRecDepth 100000 in
theorem kw_619 : (Jvm.Cond.methodLink "PuppetTheatre$Chart" (53 : Nat) ({ cls := "PuppetTheatre$State", name := "isMark", desc := "()Z" } : Jvm.MethodName)) ∈ lw_all := pt_all (List.mem_of_getElem? (i := 619) rfl) (by decide +kernel)
set_option maxRecDepth 100000 in
theorem kw_620 : (Jvm.Cond.methodLink "PuppetTheatre$Chart" (57 : Nat) ({ cls := "PuppetTheatre$State", name := "putPart", desc := "(I)V" } : Jvm.MethodName)) ∈ lw_all := pt_all (List.mem_of_getElem? (i := 620) rfl) (by decide +kernel)
set_option maxRecDepth 100000 in
theorem kw_621 : (Jvm.Cond.instanceMethod ({ cls := "PuppetTheatre$State", name := "putPart", desc := "(I)V" } : Jvm.MethodName)) ∈ lw_all := pt_all (List.mem_of_getElem? (i := 621) rfl) (by decide +kernel)
set_option maxRecDepth 100000 in
theorem kw_622 : (Jvm.Cond.selects "PuppetTheatre$State" ({ cls := "PuppetTheatre$State", name := "putPart", desc := "(I)V" } : Jvm.MethodName) ({ cls := "PuppetTheatre$State", name := "putPart", desc := "(I)V" } : Jvm.MethodName)) ∈ lw_all := pt_all (List.mem_of_getElem? (i := 622) rfl) (by decide +kernel)
set_option maxRecDepth 100000 in
theorem kw_623 : (Jvm.Cond.code ({ cls := "PuppetTheatre$State", name := "putPart", desc := "(I)V" } : Jvm.MethodName) prog_7_method_5_code (2 : Nat) (Option.none : Option Jvm.ClassFile.FieldType)) ∈ lw_all := pt_all (List.mem_of_getElem? (i := 623) rfl) (by decide +kernel)
set_option maxRecDepth 100000 in
theorem kw_624 : (Jvm.Cond.methodLink "PuppetTheatre$State" (41 : Nat) ({ cls := "PuppetTheatre$State", name := "putFirst", desc := "(I)V" } : Jvm.MethodName)) ∈ lw_all := pt_all (List.mem_of_getElem? (i := 624) rfl) (by decide +kernel)
set_option maxRecDepth 100000 in
theorem kw_625 : (Jvm.Cond.instanceMethod ({ cls := "PuppetTheatre$State", name := "putFirst", desc := "(I)V" } : Jvm.MethodName)) ∈ lw_all := pt_all (List.mem_of_getElem? (i := 625) rfl) (by decide +kernel)
set_option maxRecDepth 100000 in
theorem kw_626 : (Jvm.Cond.selects "PuppetTheatre$State" ({ cls := "PuppetTheatre$State", name := "putFirst", desc := "(I)V" } : Jvm.MethodName) ({ cls := "PuppetTheatre$State", name := "putFirst", desc := "(I)V" } : Jvm.MethodName)) ∈ lw_all := pt_all (List.mem_of_getElem? (i := 626) rfl) (by decide +kernel)
set_option maxRecDepth 100000 in
theorem kw_627 : (Jvm.Cond.code ({ cls := "PuppetTheatre$State", name := "putFirst", desc := "(I)V" } : Jvm.MethodName) prog_7_method_4_code (2 : Nat) (Option.none : Option Jvm.ClassFile.FieldType)) ∈ lw_all := pt_all (List.mem_of_getElem? (i := 627) rfl) (by decide +kernel)
set_option maxRecDepth 100000 in
theorem kw_628 : (Jvm.Cond.methodLinkNest "PuppetTheatre$State" (31 : Nat) ({ cls := "PuppetTheatre", name := "setOf", desc := "(I)I" } : Jvm.MethodName) "PuppetTheatre") ∈ lw_all := pt_all (List.mem_of_getElem? (i := 628) rfl) (by decide +kernel)
set_option maxRecDepth 100000 in
theorem kw_635 : (Jvm.Cond.code ({ cls := "PuppetTheatre", name := "setFirst", desc := "(II)I" } : Jvm.MethodName) prog_1_method_3_code (5 : Nat) (Option.some Jvm.ClassFile.FieldType.int)) ∈ lw_all := pt_all (List.mem_of_getElem? (i := 635) rfl) (by decide +kernel)
set_option maxRecDepth 100000 in
theorem kw_636 : (Jvm.Cond.methodLink "PuppetTheatre" (76 : Nat) ({ cls := "PuppetTheatre", name := "checkResting", desc := "()V" } : Jvm.MethodName)) ∈ lw_all := pt_all (List.mem_of_getElem? (i := 636) rfl) (by decide +kernel)
set_option maxRecDepth 100000 in
theorem kw_638 : (Jvm.Cond.instanceMethod ({ cls := "PuppetTheatre", name := "checkResting", desc := "()V" } : Jvm.MethodName)) ∈ lw_all := pt_all (List.mem_of_getElem? (i := 638) rfl) (by decide +kernel)
set_option maxRecDepth 100000 in
theorem kw_639 : (Jvm.Cond.code ({ cls := "PuppetTheatre", name := "checkResting", desc := "()V" } : Jvm.MethodName) prog_1_method_37_code (1 : Nat) (Option.none : Option Jvm.ClassFile.FieldType)) ∈ lw_all := pt_all (List.mem_of_getElem? (i := 639) rfl) (by decide +kernel)
set_option maxRecDepth 100000 in
theorem kw_640 : (Jvm.Cond.methodLink "PuppetTheatre" (89 : Nat) ({ cls := "PuppetTheatre$State", name := "putFirst", desc := "(I)V" } : Jvm.MethodName)) ∈ lw_all := pt_all (List.mem_of_getElem? (i := 640) rfl) (by decide +kernel)
set_option maxRecDepth 100000 in
theorem kw_647 : (Jvm.Cond.code ({ cls := "PuppetTheatre", name := "setDoing", desc := "(IZIII)I" } : Jvm.MethodName) prog_1_method_4_code (8 : Nat) (Option.some Jvm.ClassFile.FieldType.int)) ∈ lw_all := pt_all (List.mem_of_getElem? (i := 647) rfl) (by decide +kernel)
set_option maxRecDepth 100000 in
theorem kw_648 : (Jvm.Cond.methodLink "PuppetTheatre" (95 : Nat) ({ cls := "PuppetTheatre", name := "isAction", desc := "(III)Z" } : Jvm.MethodName)) ∈ lw_all := pt_all (List.mem_of_getElem? (i := 648) rfl) (by decide +kernel)
set_option maxRecDepth 100000 in
theorem kw_649 : (Jvm.Cond.static ({ cls := "PuppetTheatre", name := "isAction", desc := "(III)Z" } : Jvm.MethodName)) ∈ lw_all := pt_all (List.mem_of_getElem? (i := 649) rfl) (by decide +kernel)
set_option maxRecDepth 100000 in
theorem kw_650 : (Jvm.Cond.code ({ cls := "PuppetTheatre", name := "isAction", desc := "(III)Z" } : Jvm.MethodName) prog_1_method_45_code (3 : Nat) (Option.some Jvm.ClassFile.FieldType.boolean)) ∈ lw_all := pt_all (List.mem_of_getElem? (i := 650) rfl) (by decide +kernel)
set_option maxRecDepth 100000 in
theorem kw_651 : (Jvm.Cond.methodLink "PuppetTheatre" (290 : Nat) ({ cls := "PuppetTheatre", name := "isNumber", desc := "(I)Z" } : Jvm.MethodName)) ∈ lw_all := pt_all (List.mem_of_getElem? (i := 651) rfl) (by decide +kernel)
set_option maxRecDepth 100000 in
theorem kw_652 : (Jvm.Cond.static ({ cls := "PuppetTheatre", name := "isNumber", desc := "(I)Z" } : Jvm.MethodName)) ∈ lw_all := pt_all (List.mem_of_getElem? (i := 652) rfl) (by decide +kernel)
set_option maxRecDepth 100000 in
theorem kw_653 : (Jvm.Cond.code ({ cls := "PuppetTheatre", name := "isNumber", desc := "(I)Z" } : Jvm.MethodName) prog_1_method_46_code (1 : Nat) (Option.some Jvm.ClassFile.FieldType.boolean)) ∈ lw_all := pt_all (List.mem_of_getElem? (i := 653) rfl) (by decide +kernel)
set_option maxRecDepth 100000 in
theorem kw_654 : (Jvm.Cond.methodLink "PuppetTheatre" (105 : Nat) ({ cls := "PuppetTheatre$Action", name := "become", desc := "(III)I" } : Jvm.MethodName)) ∈ lw_all := pt_all (List.mem_of_getElem? (i := 654) rfl) (by decide +kernel)
set_option maxRecDepth 100000 in
theorem kw_655 : (Jvm.Cond.instanceMethod ({ cls := "PuppetTheatre$Action", name := "become", desc := "(III)I" } : Jvm.MethodName)) ∈ lw_all := pt_all (List.mem_of_getElem? (i := 655) rfl) (by decide +kernel)
set_option maxRecDepth 100000 in
theorem kw_656 : (Jvm.Cond.selects "PuppetTheatre$Action" ({ cls := "PuppetTheatre$Action", name := "become", desc := "(III)I" } : Jvm.MethodName) ({ cls := "PuppetTheatre$Action", name := "become", desc := "(III)I" } : Jvm.MethodName)) ∈ lw_all := pt_all (List.mem_of_getElem? (i := 656) rfl) (by decide +kernel)
set_option maxRecDepth 100000 in
theorem kw_657 : (Jvm.Cond.code ({ cls := "PuppetTheatre$Action", name := "become", desc := "(III)I" } : Jvm.MethodName) prog_2_method_2_code (5 : Nat) (Option.some Jvm.ClassFile.FieldType.int)) ∈ lw_all := pt_all (List.mem_of_getElem? (i := 657) rfl) (by decide +kernel)
set_option maxRecDepth 100000 in
theorem kw_664 : (Jvm.Cond.code ({ cls := "PuppetTheatre", name := "addTransition", desc := "(IIII)I" } : Jvm.MethodName) prog_1_method_5_code (5 : Nat) (Option.some Jvm.ClassFile.FieldType.int)) ∈ lw_all := pt_all (List.mem_of_getElem? (i := 664) rfl) (by decide +kernel)
set_option maxRecDepth 100000 in
theorem kw_665 : (Jvm.Cond.methodLink "PuppetTheatre" (114 : Nat) ({ cls := "PuppetTheatre", name := "isTrigger", desc := "(II)Z" } : Jvm.MethodName)) ∈ lw_all := pt_all (List.mem_of_getElem? (i := 665) rfl) (by decide +kernel)
set_option maxRecDepth 100000 in
theorem kw_666 : (Jvm.Cond.static ({ cls := "PuppetTheatre", name := "isTrigger", desc := "(II)Z" } : Jvm.MethodName)) ∈ lw_all := pt_all (List.mem_of_getElem? (i := 666) rfl) (by decide +kernel)
set_option maxRecDepth 100000 in
theorem kw_667 : (Jvm.Cond.code ({ cls := "PuppetTheatre", name := "isTrigger", desc := "(II)Z" } : Jvm.MethodName) prog_1_method_43_code (2 : Nat) (Option.some Jvm.ClassFile.FieldType.boolean)) ∈ lw_all := pt_all (List.mem_of_getElem? (i := 667) rfl) (by decide +kernel)
set_option maxRecDepth 100000 in
theorem kw_668 : (Jvm.Cond.methodLink "PuppetTheatre" (117 : Nat) ({ cls := "PuppetTheatre$Chart", name := "putTransition", desc := "(IIII)I" } : Jvm.MethodName)) ∈ lw_all := pt_all (List.mem_of_getElem? (i := 668) rfl) (by decide +kernel)
set_option maxRecDepth 100000 in
theorem kw_669 : (Jvm.Cond.instanceMethod ({ cls := "PuppetTheatre$Chart", name := "putTransition", desc := "(IIII)I" } : Jvm.MethodName)) ∈ lw_all := pt_all (List.mem_of_getElem? (i := 669) rfl) (by decide +kernel)
set_option maxRecDepth 100000 in
theorem kw_670 : (Jvm.Cond.selects "PuppetTheatre$Chart" ({ cls := "PuppetTheatre$Chart", name := "putTransition", desc := "(IIII)I" } : Jvm.MethodName) ({ cls := "PuppetTheatre$Chart", name := "putTransition", desc := "(IIII)I" } : Jvm.MethodName)) ∈ lw_all := pt_all (List.mem_of_getElem? (i := 670) rfl) (by decide +kernel)
set_option maxRecDepth 100000 in
theorem kw_671 : (Jvm.Cond.code ({ cls := "PuppetTheatre$Chart", name := "putTransition", desc := "(IIII)I" } : Jvm.MethodName) prog_3_method_3_code (7 : Nat) (Option.some Jvm.ClassFile.FieldType.int)) ∈ lw_all := pt_all (List.mem_of_getElem? (i := 671) rfl) (by decide +kernel)
set_option maxRecDepth 100000 in
theorem kw_672 : (Jvm.Cond.methodLink "PuppetTheatre$Chart" (79 : Nat) ({ cls := "PuppetTheatre$Chart", name := "scopeOf", desc := "(II)I" } : Jvm.MethodName)) ∈ lw_all := pt_all (List.mem_of_getElem? (i := 672) rfl) (by decide +kernel)
set_option maxRecDepth 100000 in
theorem kw_674 : (Jvm.Cond.instanceMethod ({ cls := "PuppetTheatre$Chart", name := "scopeOf", desc := "(II)I" } : Jvm.MethodName)) ∈ lw_all := pt_all (List.mem_of_getElem? (i := 674) rfl) (by decide +kernel)
set_option maxRecDepth 100000 in
theorem kw_675 : (Jvm.Cond.code ({ cls := "PuppetTheatre$Chart", name := "scopeOf", desc := "(II)I" } : Jvm.MethodName) prog_3_method_5_code (5 : Nat) (Option.some Jvm.ClassFile.FieldType.int)) ∈ lw_all := pt_all (List.mem_of_getElem? (i := 675) rfl) (by decide +kernel)
set_option maxRecDepth 100000 in
theorem kw_676 : (Jvm.Cond.methodLink "PuppetTheatre$Chart" (89 : Nat) ({ cls := "PuppetTheatre$Chart", name := "causeOf", desc := "(II)I" } : Jvm.MethodName)) ∈ lw_all := pt_all (List.mem_of_getElem? (i := 676) rfl) (by decide +kernel)
set_option maxRecDepth 100000 in
theorem kw_677 : (Jvm.Cond.static ({ cls := "PuppetTheatre$Chart", name := "causeOf", desc := "(II)I" } : Jvm.MethodName)) ∈ lw_all := pt_all (List.mem_of_getElem? (i := 677) rfl) (by decide +kernel)
set_option maxRecDepth 100000 in
theorem kw_678 : (Jvm.Cond.code ({ cls := "PuppetTheatre$Chart", name := "causeOf", desc := "(II)I" } : Jvm.MethodName) prog_3_method_4_code (2 : Nat) (Option.some Jvm.ClassFile.FieldType.int)) ∈ lw_all := pt_all (List.mem_of_getElem? (i := 678) rfl) (by decide +kernel)
set_option maxRecDepth 100000 in
theorem kw_685 : (Jvm.Cond.code ({ cls := "PuppetTheatre", name := "setGuard", desc := "(IIII)I" } : Jvm.MethodName) prog_1_method_6_code (7 : Nat) (Option.some Jvm.ClassFile.FieldType.int)) ∈ lw_all := pt_all (List.mem_of_getElem? (i := 685) rfl) (by decide +kernel)
set_option maxRecDepth 100000 in
theorem kw_686 : (Jvm.Cond.methodLink "PuppetTheatre" (124 : Nat) ({ cls := "PuppetTheatre", name := "isGuard", desc := "(III)Z" } : Jvm.MethodName)) ∈ lw_all := pt_all (List.mem_of_getElem? (i := 686) rfl) (by decide +kernel)
set_option maxRecDepth 100000 in
theorem kw_687 : (Jvm.Cond.static ({ cls := "PuppetTheatre", name := "isGuard", desc := "(III)Z" } : Jvm.MethodName)) ∈ lw_all := pt_all (List.mem_of_getElem? (i := 687) rfl) (by decide +kernel)
set_option maxRecDepth 100000 in
theorem kw_688 : (Jvm.Cond.code ({ cls := "PuppetTheatre", name := "isGuard", desc := "(III)Z" } : Jvm.MethodName) prog_1_method_44_code (3 : Nat) (Option.some Jvm.ClassFile.FieldType.boolean)) ∈ lw_all := pt_all (List.mem_of_getElem? (i := 688) rfl) (by decide +kernel)
set_option maxRecDepth 100000 in
theorem kw_695 : (Jvm.Cond.code ({ cls := "PuppetTheatre", name := "setAction", desc := "(IIII)I" } : Jvm.MethodName) prog_1_method_7_code (5 : Nat) (Option.some Jvm.ClassFile.FieldType.int)) ∈ lw_all := pt_all (List.mem_of_getElem? (i := 695) rfl) (by decide +kernel)
set_option maxRecDepth 100000 in
theorem kw_702 : (Jvm.Cond.code ({ cls := "PuppetTheatre", name := "start", desc := "()I" } : Jvm.MethodName) prog_1_method_8_code (1 : Nat) (Option.some Jvm.ClassFile.FieldType.int)) ∈ lw_all := pt_all (List.mem_of_getElem? (i := 702) rfl) (by decide +kernel)
set_option maxRecDepth 100000 in
theorem kw_703 : (Jvm.Cond.methodLink "PuppetTheatre" (145 : Nat) ({ cls := "PuppetTheatre$Play", name := "reset", desc := "()V" } : Jvm.MethodName)) ∈ lw_all := pt_all (List.mem_of_getElem? (i := 703) rfl) (by decide +kernel)
set_option maxRecDepth 100000 in
theorem kw_704 : (Jvm.Cond.instanceMethod ({ cls := "PuppetTheatre$Play", name := "reset", desc := "()V" } : Jvm.MethodName)) ∈ lw_all := pt_all (List.mem_of_getElem? (i := 704) rfl) (by decide +kernel)
set_option maxRecDepth 100000 in
theorem kw_705 : (Jvm.Cond.selects "PuppetTheatre$Play" ({ cls := "PuppetTheatre$Play", name := "reset", desc := "()V" } : Jvm.MethodName) ({ cls := "PuppetTheatre$Play", name := "reset", desc := "()V" } : Jvm.MethodName)) ∈ lw_all := pt_all (List.mem_of_getElem? (i := 705) rfl) (by decide +kernel)
set_option maxRecDepth 100000 in
theorem kw_706 : (Jvm.Cond.code ({ cls := "PuppetTheatre$Play", name := "reset", desc := "()V" } : Jvm.MethodName) prog_5_method_2_code (2 : Nat) (Option.none : Option Jvm.ClassFile.FieldType)) ∈ lw_all := pt_all (List.mem_of_getElem? (i := 706) rfl) (by decide +kernel)
set_option maxRecDepth 100000 in
theorem kw_707 : (Jvm.Cond.methodLink "PuppetTheatre$Play" (32 : Nat) ({ cls := "PuppetTheatre$Situation", name := "clear", desc := "()V" } : Jvm.MethodName)) ∈ lw_all := pt_all (List.mem_of_getElem? (i := 707) rfl) (by decide +kernel)
set_option maxRecDepth 100000 in
theorem kw_708 : (Jvm.Cond.instanceMethod ({ cls := "PuppetTheatre$Situation", name := "clear", desc := "()V" } : Jvm.MethodName)) ∈ lw_all := pt_all (List.mem_of_getElem? (i := 708) rfl) (by decide +kernel)
set_option maxRecDepth 100000 in
theorem kw_709 : (Jvm.Cond.selects "PuppetTheatre$Situation" ({ cls := "PuppetTheatre$Situation", name := "clear", desc := "()V" } : Jvm.MethodName) ({ cls := "PuppetTheatre$Situation", name := "clear", desc := "()V" } : Jvm.MethodName)) ∈ lw_all := pt_all (List.mem_of_getElem? (i := 709) rfl) (by decide +kernel)
set_option maxRecDepth 100000 in
theorem kw_710 : (Jvm.Cond.code ({ cls := "PuppetTheatre$Situation", name := "clear", desc := "()V" } : Jvm.MethodName) prog_6_method_3_code (2 : Nat) (Option.none : Option Jvm.ClassFile.FieldType)) ∈ lw_all := pt_all (List.mem_of_getElem? (i := 710) rfl) (by decide +kernel)
set_option maxRecDepth 100000 in
theorem kw_711 : (Jvm.Cond.methodLink "PuppetTheatre$Situation" (25 : Nat) ({ cls := "PuppetTheatre$Situation", name := "deactivate", desc := "()V" } : Jvm.MethodName)) ∈ lw_all := pt_all (List.mem_of_getElem? (i := 711) rfl) (by decide +kernel)
set_option maxRecDepth 100000 in
theorem kw_712 : (Jvm.Cond.instanceMethod ({ cls := "PuppetTheatre$Situation", name := "deactivate", desc := "()V" } : Jvm.MethodName)) ∈ lw_all := pt_all (List.mem_of_getElem? (i := 712) rfl) (by decide +kernel)
set_option maxRecDepth 100000 in
theorem kw_713 : (Jvm.Cond.selects "PuppetTheatre$Situation" ({ cls := "PuppetTheatre$Situation", name := "deactivate", desc := "()V" } : Jvm.MethodName) ({ cls := "PuppetTheatre$Situation", name := "deactivate", desc := "()V" } : Jvm.MethodName)) ∈ lw_all := pt_all (List.mem_of_getElem? (i := 713) rfl) (by decide +kernel)
set_option maxRecDepth 100000 in
theorem kw_714 : (Jvm.Cond.code ({ cls := "PuppetTheatre$Situation", name := "deactivate", desc := "()V" } : Jvm.MethodName) prog_6_method_2_code (2 : Nat) (Option.none : Option Jvm.ClassFile.FieldType)) ∈ lw_all := pt_all (List.mem_of_getElem? (i := 714) rfl) (by decide +kernel)
set_option maxRecDepth 100000 in
theorem kw_715 : (Jvm.Cond.methodLink "PuppetTheatre" (148 : Nat) ({ cls := "PuppetTheatre", name := "setOf", desc := "(I)I" } : Jvm.MethodName)) ∈ lw_all := pt_all (List.mem_of_getElem? (i := 715) rfl) (by decide +kernel)
set_option maxRecDepth 100000 in
theorem kw_716 : (Jvm.Cond.methodLink "PuppetTheatre" (152 : Nat) ({ cls := "PuppetTheatre$Chart", name := "filled", desc := "(I)I" } : Jvm.MethodName)) ∈ lw_all := pt_all (List.mem_of_getElem? (i := 716) rfl) (by decide +kernel)
set_option maxRecDepth 100000 in
theorem kw_717 : (Jvm.Cond.instanceMethod ({ cls := "PuppetTheatre$Chart", name := "filled", desc := "(I)I" } : Jvm.MethodName)) ∈ lw_all := pt_all (List.mem_of_getElem? (i := 717) rfl) (by decide +kernel)
set_option maxRecDepth 100000 in
theorem kw_718 : (Jvm.Cond.selects "PuppetTheatre$Chart" ({ cls := "PuppetTheatre$Chart", name := "filled", desc := "(I)I" } : Jvm.MethodName) ({ cls := "PuppetTheatre$Chart", name := "filled", desc := "(I)I" } : Jvm.MethodName)) ∈ lw_all := pt_all (List.mem_of_getElem? (i := 718) rfl) (by decide +kernel)
set_option maxRecDepth 100000 in
theorem kw_719 : (Jvm.Cond.code ({ cls := "PuppetTheatre$Chart", name := "filled", desc := "(I)I" } : Jvm.MethodName) prog_3_method_6_code (4 : Nat) (Option.some Jvm.ClassFile.FieldType.int)) ∈ lw_all := pt_all (List.mem_of_getElem? (i := 719) rfl) (by decide +kernel)
set_option maxRecDepth 100000 in
theorem kw_720 : (Jvm.Cond.methodLink "PuppetTheatre" (155 : Nat) ({ cls := "PuppetTheatre$Play", name := "enter", desc := "(I)V" } : Jvm.MethodName)) ∈ lw_all := pt_all (List.mem_of_getElem? (i := 720) rfl) (by decide +kernel)
set_option maxRecDepth 100000 in
theorem kw_721 : (Jvm.Cond.instanceMethod ({ cls := "PuppetTheatre$Play", name := "enter", desc := "(I)V" } : Jvm.MethodName)) ∈ lw_all := pt_all (List.mem_of_getElem? (i := 721) rfl) (by decide +kernel)
set_option maxRecDepth 100000 in
theorem kw_722 : (Jvm.Cond.selects "PuppetTheatre$Play" ({ cls := "PuppetTheatre$Play", name := "enter", desc := "(I)V" } : Jvm.MethodName) ({ cls := "PuppetTheatre$Play", name := "enter", desc := "(I)V" } : Jvm.MethodName)) ∈ lw_all := pt_all (List.mem_of_getElem? (i := 722) rfl) (by decide +kernel)
set_option maxRecDepth 100000 in
theorem kw_723 : (Jvm.Cond.code ({ cls := "PuppetTheatre$Play", name := "enter", desc := "(I)V" } : Jvm.MethodName) prog_5_method_19_code (3 : Nat) (Option.none : Option Jvm.ClassFile.FieldType)) ∈ lw_all := pt_all (List.mem_of_getElem? (i := 723) rfl) (by decide +kernel)
set_option maxRecDepth 100000 in
theorem kw_724 : (Jvm.Cond.methodLinkNest "PuppetTheatre$Play" (89 : Nat) ({ cls := "PuppetTheatre", name := "has", desc := "(II)Z" } : Jvm.MethodName) "PuppetTheatre") ∈ lw_all := pt_all (List.mem_of_getElem? (i := 724) rfl) (by decide +kernel)
set_option maxRecDepth 100000 in
theorem kw_725 : (Jvm.Cond.methodLinkNest "PuppetTheatre$Play" (143 : Nat) ({ cls := "PuppetTheatre", name := "setOf", desc := "(I)I" } : Jvm.MethodName) "PuppetTheatre") ∈ lw_all := pt_all (List.mem_of_getElem? (i := 725) rfl) (by decide +kernel)
set_option maxRecDepth 100000 in
theorem kw_726 : (Jvm.Cond.methodLink "PuppetTheatre$Play" (126 : Nat) ({ cls := "PuppetTheatre$Play", name := "act", desc := "(LPuppetTheatre$Action;)V" } : Jvm.MethodName)) ∈ lw_all := pt_all (List.mem_of_getElem? (i := 726) rfl) (by decide +kernel)
set_option maxRecDepth 100000 in
theorem kw_728 : (Jvm.Cond.instanceMethod ({ cls := "PuppetTheatre$Play", name := "act", desc := "(LPuppetTheatre$Action;)V" } : Jvm.MethodName)) ∈ lw_all := pt_all (List.mem_of_getElem? (i := 728) rfl) (by decide +kernel)
set_option maxRecDepth 100000 in
theorem kw_729 : (Jvm.Cond.code ({ cls := "PuppetTheatre$Play", name := "act", desc := "(LPuppetTheatre$Action;)V" } : Jvm.MethodName) prog_5_method_21_code (2 : Nat) (Option.none : Option Jvm.ClassFile.FieldType)) ∈ lw_all := pt_all (List.mem_of_getElem? (i := 729) rfl) (by decide +kernel)
set_option maxRecDepth 100000 in
theorem kw_730 : (Jvm.Cond.methodLink "PuppetTheatre$Play" (231 : Nat) ({ cls := "PuppetTheatre$Situation", name := "add", desc := "(II)V" } : Jvm.MethodName)) ∈ lw_all := pt_all (List.mem_of_getElem? (i := 730) rfl) (by decide +kernel)
set_option maxRecDepth 100000 in
theorem kw_731 : (Jvm.Cond.instanceMethod ({ cls := "PuppetTheatre$Situation", name := "add", desc := "(II)V" } : Jvm.MethodName)) ∈ lw_all := pt_all (List.mem_of_getElem? (i := 731) rfl) (by decide +kernel)
set_option maxRecDepth 100000 in
theorem kw_732 : (Jvm.Cond.selects "PuppetTheatre$Situation" ({ cls := "PuppetTheatre$Situation", name := "add", desc := "(II)V" } : Jvm.MethodName) ({ cls := "PuppetTheatre$Situation", name := "add", desc := "(II)V" } : Jvm.MethodName)) ∈ lw_all := pt_all (List.mem_of_getElem? (i := 732) rfl) (by decide +kernel)
set_option maxRecDepth 100000 in
theorem kw_733 : (Jvm.Cond.code ({ cls := "PuppetTheatre$Situation", name := "add", desc := "(II)V" } : Jvm.MethodName) prog_6_method_4_code (4 : Nat) (Option.none : Option Jvm.ClassFile.FieldType)) ∈ lw_all := pt_all (List.mem_of_getElem? (i := 733) rfl) (by decide +kernel)
set_option maxRecDepth 100000 in
theorem kw_734 : (Jvm.Cond.methodLink "PuppetTheatre$Situation" (28 : Nat) ({ cls := "java/lang/Math", name := "min", desc := "(II)I" } : Jvm.MethodName)) ∈ lw_all := pt_all (List.mem_of_getElem? (i := 734) rfl) (by decide +kernel)
set_option maxRecDepth 100000 in
theorem kw_735 : (Jvm.Cond.static ({ cls := "java/lang/Math", name := "min", desc := "(II)I" } : Jvm.MethodName)) ∈ lw_all := pt_all (List.mem_of_getElem? (i := 735) rfl) (by decide +kernel)
set_option maxRecDepth 100000 in
theorem kw_736 : (Jvm.Cond.code ({ cls := "java/lang/Math", name := "min", desc := "(II)I" } : Jvm.MethodName) prog_25_method_69_code (2 : Nat) (Option.some Jvm.ClassFile.FieldType.int)) ∈ lw_all := pt_all (List.mem_of_getElem? (i := 736) rfl) (by decide +kernel)
set_option maxRecDepth 100000 in
theorem kw_737 : (Jvm.Cond.methodLink "PuppetTheatre$Situation" (34 : Nat) ({ cls := "java/lang/Math", name := "max", desc := "(II)I" } : Jvm.MethodName)) ∈ lw_all := pt_all (List.mem_of_getElem? (i := 737) rfl) (by decide +kernel)
set_option maxRecDepth 100000 in
theorem kw_738 : (Jvm.Cond.static ({ cls := "java/lang/Math", name := "max", desc := "(II)I" } : Jvm.MethodName)) ∈ lw_all := pt_all (List.mem_of_getElem? (i := 738) rfl) (by decide +kernel)
set_option maxRecDepth 100000 in
theorem kw_739 : (Jvm.Cond.code ({ cls := "java/lang/Math", name := "max", desc := "(II)I" } : Jvm.MethodName) prog_25_method_65_code (2 : Nat) (Option.some Jvm.ClassFile.FieldType.int)) ∈ lw_all := pt_all (List.mem_of_getElem? (i := 739) rfl) (by decide +kernel)
set_option maxRecDepth 100000 in
theorem kw_740 : (Jvm.Cond.methodLink "PuppetTheatre$Play" (235 : Nat) ({ cls := "PuppetTheatre$Play", name := "raise", desc := "(I)V" } : Jvm.MethodName)) ∈ lw_all := pt_all (List.mem_of_getElem? (i := 740) rfl) (by decide +kernel)
set_option maxRecDepth 100000 in
theorem kw_742 : (Jvm.Cond.instanceMethod ({ cls := "PuppetTheatre$Play", name := "raise", desc := "(I)V" } : Jvm.MethodName)) ∈ lw_all := pt_all (List.mem_of_getElem? (i := 742) rfl) (by decide +kernel)
set_option maxRecDepth 100000 in
theorem kw_743 : (Jvm.Cond.code ({ cls := "PuppetTheatre$Play", name := "raise", desc := "(I)V" } : Jvm.MethodName) prog_5_method_6_code (2 : Nat) (Option.none : Option Jvm.ClassFile.FieldType)) ∈ lw_all := pt_all (List.mem_of_getElem? (i := 743) rfl) (by decide +kernel)
set_option maxRecDepth 100000 in
theorem kw_744 : (Jvm.Cond.methodLink "PuppetTheatre" (158 : Nat) ({ cls := "PuppetTheatre$Play", name := "proceed", desc := "(I)I" } : Jvm.MethodName)) ∈ lw_all := pt_all (List.mem_of_getElem? (i := 744) rfl) (by decide +kernel)
set_option maxRecDepth 100000 in
theorem kw_745 : (Jvm.Cond.instanceMethod ({ cls := "PuppetTheatre$Play", name := "proceed", desc := "(I)I" } : Jvm.MethodName)) ∈ lw_all := pt_all (List.mem_of_getElem? (i := 745) rfl) (by decide +kernel)
set_option maxRecDepth 100000 in
theorem kw_746 : (Jvm.Cond.selects "PuppetTheatre$Play" ({ cls := "PuppetTheatre$Play", name := "proceed", desc := "(I)I" } : Jvm.MethodName) ({ cls := "PuppetTheatre$Play", name := "proceed", desc := "(I)I" } : Jvm.MethodName)) ∈ lw_all := pt_all (List.mem_of_getElem? (i := 746) rfl) (by decide +kernel)
set_option maxRecDepth 100000 in
theorem kw_747 : (Jvm.Cond.code ({ cls := "PuppetTheatre$Play", name := "proceed", desc := "(I)I" } : Jvm.MethodName) prog_5_method_4_code (7 : Nat) (Option.some Jvm.ClassFile.FieldType.int)) ∈ lw_all := pt_all (List.mem_of_getElem? (i := 747) rfl) (by decide +kernel)
set_option maxRecDepth 100000 in
theorem kw_748 : (Jvm.Cond.methodLink "PuppetTheatre$Play" (68 : Nat) ({ cls := "PuppetTheatre$Play", name := "isAtEnd", desc := "()Z" } : Jvm.MethodName)) ∈ lw_all := pt_all (List.mem_of_getElem? (i := 748) rfl) (by decide +kernel)
set_option maxRecDepth 100000 in
theorem kw_749 : (Jvm.Cond.methodLink "PuppetTheatre$Play" (72 : Nat) ({ cls := "PuppetTheatre$Play", name := "loseQueue", desc := "()V" } : Jvm.MethodName)) ∈ lw_all := pt_all (List.mem_of_getElem? (i := 749) rfl) (by decide +kernel)
set_option maxRecDepth 100000 in
theorem kw_751 : (Jvm.Cond.instanceMethod ({ cls := "PuppetTheatre$Play", name := "loseQueue", desc := "()V" } : Jvm.MethodName)) ∈ lw_all := pt_all (List.mem_of_getElem? (i := 751) rfl) (by decide +kernel)
set_option maxRecDepth 100000 in
theorem kw_752 : (Jvm.Cond.code ({ cls := "PuppetTheatre$Play", name := "loseQueue", desc := "()V" } : Jvm.MethodName) prog_5_method_7_code (1 : Nat) (Option.none : Option Jvm.ClassFile.FieldType)) ∈ lw_all := pt_all (List.mem_of_getElem? (i := 752) rfl) (by decide +kernel)
set_option maxRecDepth 100000 in
theorem kw_753 : (Jvm.Cond.methodLink "PuppetTheatre$Play" (75 : Nat) ({ cls := "PuppetTheatre$Play", name := "growOlder", desc := "()V" } : Jvm.MethodName)) ∈ lw_all := pt_all (List.mem_of_getElem? (i := 753) rfl) (by decide +kernel)
set_option maxRecDepth 100000 in
theorem kw_755 : (Jvm.Cond.instanceMethod ({ cls := "PuppetTheatre$Play", name := "growOlder", desc := "()V" } : Jvm.MethodName)) ∈ lw_all := pt_all (List.mem_of_getElem? (i := 755) rfl) (by decide +kernel)
set_option maxRecDepth 100000 in
theorem kw_756 : (Jvm.Cond.code ({ cls := "PuppetTheatre$Play", name := "growOlder", desc := "()V" } : Jvm.MethodName) prog_5_method_5_code (2 : Nat) (Option.none : Option Jvm.ClassFile.FieldType)) ∈ lw_all := pt_all (List.mem_of_getElem? (i := 756) rfl) (by decide +kernel)
set_option maxRecDepth 100000 in
theorem kw_757 : (Jvm.Cond.methodLink "PuppetTheatre$Play" (78 : Nat) ({ cls := "PuppetTheatre$Play", name := "step", desc := "(I)I" } : Jvm.MethodName)) ∈ lw_all := pt_all (List.mem_of_getElem? (i := 757) rfl) (by decide +kernel)
set_option maxRecDepth 100000 in
theorem kw_759 : (Jvm.Cond.instanceMethod ({ cls := "PuppetTheatre$Play", name := "step", desc := "(I)I" } : Jvm.MethodName)) ∈ lw_all := pt_all (List.mem_of_getElem? (i := 759) rfl) (by decide +kernel)
set_option maxRecDepth 100000 in
theorem kw_760 : (Jvm.Cond.code ({ cls := "PuppetTheatre$Play", name := "step", desc := "(I)I" } : Jvm.MethodName) prog_5_method_9_code (7 : Nat) (Option.some Jvm.ClassFile.FieldType.int)) ∈ lw_all := pt_all (List.mem_of_getElem? (i := 760) rfl) (by decide +kernel)
set_option maxRecDepth 100000 in
theorem kw_761 : (Jvm.Cond.methodLink "PuppetTheatre$Play" (96 : Nat) ({ cls := "PuppetTheatre$Play", name := "openBy", desc := "(I)I" } : Jvm.MethodName)) ∈ lw_all := pt_all (List.mem_of_getElem? (i := 761) rfl) (by decide +kernel)
set_option maxRecDepth 100000 in
theorem kw_762 : (Jvm.Cond.instanceMethod ({ cls := "PuppetTheatre$Play", name := "openBy", desc := "(I)I" } : Jvm.MethodName)) ∈ lw_all := pt_all (List.mem_of_getElem? (i := 762) rfl) (by decide +kernel)
set_option maxRecDepth 100000 in
theorem kw_763 : (Jvm.Cond.selects "PuppetTheatre$Play" ({ cls := "PuppetTheatre$Play", name := "openBy", desc := "(I)I" } : Jvm.MethodName) ({ cls := "PuppetTheatre$Play", name := "openBy", desc := "(I)I" } : Jvm.MethodName)) ∈ lw_all := pt_all (List.mem_of_getElem? (i := 763) rfl) (by decide +kernel)
set_option maxRecDepth 100000 in
theorem kw_764 : (Jvm.Cond.code ({ cls := "PuppetTheatre$Play", name := "openBy", desc := "(I)I" } : Jvm.MethodName) prog_5_method_10_code (6 : Nat) (Option.some Jvm.ClassFile.FieldType.int)) ∈ lw_all := pt_all (List.mem_of_getElem? (i := 764) rfl) (by decide +kernel)
set_option maxRecDepth 100000 in
theorem kw_765 : (Jvm.Cond.methodLink "PuppetTheatre$Play" (152 : Nat) ({ cls := "PuppetTheatre$Chart", name := "endedAmong", desc := "(I)I" } : Jvm.MethodName)) ∈ lw_all := pt_all (List.mem_of_getElem? (i := 765) rfl) (by decide +kernel)
set_option maxRecDepth 100000 in
theorem kw_766 : (Jvm.Cond.methodLink "PuppetTheatre$Play" (158 : Nat) ({ cls := "PuppetTheatre$Play", name := "isOpen", desc := "(LPuppetTheatre$Transition;I)Z" } : Jvm.MethodName)) ∈ lw_all := pt_all (List.mem_of_getElem? (i := 766) rfl) (by decide +kernel)
set_option maxRecDepth 100000 in
theorem kw_768 : (Jvm.Cond.instanceMethod ({ cls := "PuppetTheatre$Play", name := "isOpen", desc := "(LPuppetTheatre$Transition;I)Z" } : Jvm.MethodName)) ∈ lw_all := pt_all (List.mem_of_getElem? (i := 768) rfl) (by decide +kernel)
set_option maxRecDepth 100000 in
theorem kw_769 : (Jvm.Cond.code ({ cls := "PuppetTheatre$Play", name := "isOpen", desc := "(LPuppetTheatre$Transition;I)Z" } : Jvm.MethodName) prog_5_method_11_code (3 : Nat) (Option.some Jvm.ClassFile.FieldType.boolean)) ∈ lw_all := pt_all (List.mem_of_getElem? (i := 769) rfl) (by decide +kernel)
set_option maxRecDepth 100000 in
theorem kw_770 : (Jvm.Cond.methodLink "PuppetTheatre$Play" (168 : Nat) ({ cls := "PuppetTheatre$Transition", name := "isAllowed", desc := "([I)Z" } : Jvm.MethodName)) ∈ lw_all := pt_all (List.mem_of_getElem? (i := 770) rfl) (by decide +kernel)
set_option maxRecDepth 100000 in
theorem kw_771 : (Jvm.Cond.instanceMethod ({ cls := "PuppetTheatre$Transition", name := "isAllowed", desc := "([I)Z" } : Jvm.MethodName)) ∈ lw_all := pt_all (List.mem_of_getElem? (i := 771) rfl) (by decide +kernel)
set_option maxRecDepth 100000 in
theorem kw_772 : (Jvm.Cond.selects "PuppetTheatre$Transition" ({ cls := "PuppetTheatre$Transition", name := "isAllowed", desc := "([I)Z" } : Jvm.MethodName) ({ cls := "PuppetTheatre$Transition", name := "isAllowed", desc := "([I)Z" } : Jvm.MethodName)) ∈ lw_all := pt_all (List.mem_of_getElem? (i := 772) rfl) (by decide +kernel)
set_option maxRecDepth 100000 in
theorem kw_773 : (Jvm.Cond.code ({ cls := "PuppetTheatre$Transition", name := "isAllowed", desc := "([I)Z" } : Jvm.MethodName) prog_8_method_2_code (2 : Nat) (Option.some Jvm.ClassFile.FieldType.boolean)) ∈ lw_all := pt_all (List.mem_of_getElem? (i := 773) rfl) (by decide +kernel)
set_option maxRecDepth 100000 in
theorem kw_774 : (Jvm.Cond.methodLink "PuppetTheatre$Play" (99 : Nat) ({ cls := "PuppetTheatre$Play", name := "choose", desc := "(I)V" } : Jvm.MethodName)) ∈ lw_all := pt_all (List.mem_of_getElem? (i := 774) rfl) (by decide +kernel)
set_option maxRecDepth 100000 in
theorem kw_776 : (Jvm.Cond.instanceMethod ({ cls := "PuppetTheatre$Play", name := "choose", desc := "(I)V" } : Jvm.MethodName)) ∈ lw_all := pt_all (List.mem_of_getElem? (i := 776) rfl) (by decide +kernel)
set_option maxRecDepth 100000 in
theorem kw_777 : (Jvm.Cond.code ({ cls := "PuppetTheatre$Play", name := "choose", desc := "(I)V" } : Jvm.MethodName) prog_5_method_12_code (6 : Nat) (Option.none : Option Jvm.ClassFile.FieldType)) ∈ lw_all := pt_all (List.mem_of_getElem? (i := 777) rfl) (by decide +kernel)
set_option maxRecDepth 100000 in
theorem kw_778 : (Jvm.Cond.methodLink "PuppetTheatre$Play" (181 : Nat) ({ cls := "PuppetTheatre$Play", name := "nearestOpen", desc := "(II)I" } : Jvm.MethodName)) ∈ lw_all := pt_all (List.mem_of_getElem? (i := 778) rfl) (by decide +kernel)
set_option maxRecDepth 100000 in
theorem kw_780 : (Jvm.Cond.instanceMethod ({ cls := "PuppetTheatre$Play", name := "nearestOpen", desc := "(II)I" } : Jvm.MethodName)) ∈ lw_all := pt_all (List.mem_of_getElem? (i := 780) rfl) (by decide +kernel)
set_option maxRecDepth 100000 in
theorem kw_781 : (Jvm.Cond.code ({ cls := "PuppetTheatre$Play", name := "nearestOpen", desc := "(II)I" } : Jvm.MethodName) prog_5_method_13_code (5 : Nat) (Option.some Jvm.ClassFile.FieldType.int)) ∈ lw_all := pt_all (List.mem_of_getElem? (i := 781) rfl) (by decide +kernel)
set_option maxRecDepth 100000 in
theorem kw_782 : (Jvm.Cond.methodLink "PuppetTheatre$Play" (193 : Nat) ({ cls := "PuppetTheatre$Play", name := "smallestOf", desc := "(I)I" } : Jvm.MethodName)) ∈ lw_all := pt_all (List.mem_of_getElem? (i := 782) rfl) (by decide +kernel)
set_option maxRecDepth 100000 in
theorem kw_783 : (Jvm.Cond.static ({ cls := "PuppetTheatre$Play", name := "smallestOf", desc := "(I)I" } : Jvm.MethodName)) ∈ lw_all := pt_all (List.mem_of_getElem? (i := 783) rfl) (by decide +kernel)
set_option maxRecDepth 100000 in
theorem kw_784 : (Jvm.Cond.code ({ cls := "PuppetTheatre$Play", name := "smallestOf", desc := "(I)I" } : Jvm.MethodName) prog_5_method_14_code (1 : Nat) (Option.some Jvm.ClassFile.FieldType.int)) ∈ lw_all := pt_all (List.mem_of_getElem? (i := 784) rfl) (by decide +kernel)
set_option maxRecDepth 100000 in
theorem kw_785 : (Jvm.Cond.methodLink "PuppetTheatre$Play" (196 : Nat) ({ cls := "java/lang/Integer", name := "bitCount", desc := "(I)I" } : Jvm.MethodName)) ∈ lw_all := pt_all (List.mem_of_getElem? (i := 785) rfl) (by decide +kernel)
set_option maxRecDepth 100000 in
theorem kw_786 : (Jvm.Cond.methodLink "PuppetTheatre$Play" (184 : Nat) ({ cls := "PuppetTheatre$Play", name := "takeIfFree", desc := "(I)V" } : Jvm.MethodName)) ∈ lw_all := pt_all (List.mem_of_getElem? (i := 786) rfl) (by decide +kernel)
set_option maxRecDepth 100000 in
theorem kw_788 : (Jvm.Cond.instanceMethod ({ cls := "PuppetTheatre$Play", name := "takeIfFree", desc := "(I)V" } : Jvm.MethodName)) ∈ lw_all := pt_all (List.mem_of_getElem? (i := 788) rfl) (by decide +kernel)
set_option maxRecDepth 100000 in
theorem kw_789 : (Jvm.Cond.code ({ cls := "PuppetTheatre$Play", name := "takeIfFree", desc := "(I)V" } : Jvm.MethodName) prog_5_method_15_code (6 : Nat) (Option.none : Option Jvm.ClassFile.FieldType)) ∈ lw_all := pt_all (List.mem_of_getElem? (i := 789) rfl) (by decide +kernel)
set_option maxRecDepth 100000 in
theorem kw_790 : (Jvm.Cond.methodLink "PuppetTheatre$Play" (110 : Nat) ({ cls := "PuppetTheatre$Play", name := "leftBy", desc := "(LPuppetTheatre$Transition;)I" } : Jvm.MethodName)) ∈ lw_all := pt_all (List.mem_of_getElem? (i := 790) rfl) (by decide +kernel)
set_option maxRecDepth 100000 in
theorem kw_792 : (Jvm.Cond.instanceMethod ({ cls := "PuppetTheatre$Play", name := "leftBy", desc := "(LPuppetTheatre$Transition;)I" } : Jvm.MethodName)) ∈ lw_all := pt_all (List.mem_of_getElem? (i := 792) rfl) (by decide +kernel)
set_option maxRecDepth 100000 in
theorem kw_793 : (Jvm.Cond.code ({ cls := "PuppetTheatre$Play", name := "leftBy", desc := "(LPuppetTheatre$Transition;)I" } : Jvm.MethodName) prog_5_method_16_code (2 : Nat) (Option.some Jvm.ClassFile.FieldType.int)) ∈ lw_all := pt_all (List.mem_of_getElem? (i := 793) rfl) (by decide +kernel)
set_option maxRecDepth 100000 in
theorem kw_794 : (Jvm.Cond.methodLink "PuppetTheatre$Play" (114 : Nat) ({ cls := "PuppetTheatre$Play", name := "makeRecords", desc := "(I)V" } : Jvm.MethodName)) ∈ lw_all := pt_all (List.mem_of_getElem? (i := 794) rfl) (by decide +kernel)
set_option maxRecDepth 100000 in
theorem kw_796 : (Jvm.Cond.instanceMethod ({ cls := "PuppetTheatre$Play", name := "makeRecords", desc := "(I)V" } : Jvm.MethodName)) ∈ lw_all := pt_all (List.mem_of_getElem? (i := 796) rfl) (by decide +kernel)
set_option maxRecDepth 100000 in
theorem kw_797 : (Jvm.Cond.code ({ cls := "PuppetTheatre$Play", name := "makeRecords", desc := "(I)V" } : Jvm.MethodName) prog_5_method_17_code (6 : Nat) (Option.none : Option Jvm.ClassFile.FieldType)) ∈ lw_all := pt_all (List.mem_of_getElem? (i := 797) rfl) (by decide +kernel)
set_option maxRecDepth 100000 in
theorem kw_798 : (Jvm.Cond.methodLink "PuppetTheatre$Play" (201 : Nat) ({ cls := "PuppetTheatre$State", name := "isMark", desc := "()Z" } : Jvm.MethodName)) ∈ lw_all := pt_all (List.mem_of_getElem? (i := 798) rfl) (by decide +kernel)
set_option maxRecDepth 100000 in
theorem kw_799 : (Jvm.Cond.methodLink "PuppetTheatre$Play" (117 : Nat) ({ cls := "PuppetTheatre$Play", name := "leave", desc := "(I)V" } : Jvm.MethodName)) ∈ lw_all := pt_all (List.mem_of_getElem? (i := 799) rfl) (by decide +kernel)
set_option maxRecDepth 100000 in
theorem kw_801 : (Jvm.Cond.instanceMethod ({ cls := "PuppetTheatre$Play", name := "leave", desc := "(I)V" } : Jvm.MethodName)) ∈ lw_all := pt_all (List.mem_of_getElem? (i := 801) rfl) (by decide +kernel)
set_option maxRecDepth 100000 in
theorem kw_802 : (Jvm.Cond.code ({ cls := "PuppetTheatre$Play", name := "leave", desc := "(I)V" } : Jvm.MethodName) prog_5_method_18_code (3 : Nat) (Option.none : Option Jvm.ClassFile.FieldType)) ∈ lw_all := pt_all (List.mem_of_getElem? (i := 802) rfl) (by decide +kernel)
set_option maxRecDepth 100000 in
theorem kw_803 : (Jvm.Cond.methodLink "PuppetTheatre$Play" (133 : Nat) ({ cls := "PuppetTheatre$Play", name := "targetsOf", desc := "(LPuppetTheatre$Transition;)I" } : Jvm.MethodName)) ∈ lw_all := pt_all (List.mem_of_getElem? (i := 803) rfl) (by decide +kernel)
set_option maxRecDepth 100000 in
theorem kw_805 : (Jvm.Cond.instanceMethod ({ cls := "PuppetTheatre$Play", name := "targetsOf", desc := "(LPuppetTheatre$Transition;)I" } : Jvm.MethodName)) ∈ lw_all := pt_all (List.mem_of_getElem? (i := 805) rfl) (by decide +kernel)
set_option maxRecDepth 100000 in
theorem kw_806 : (Jvm.Cond.code ({ cls := "PuppetTheatre$Play", name := "targetsOf", desc := "(LPuppetTheatre$Transition;)I" } : Jvm.MethodName) prog_5_method_20_code (3 : Nat) (Option.some Jvm.ClassFile.FieldType.int)) ∈ lw_all := pt_all (List.mem_of_getElem? (i := 806) rfl) (by decide +kernel)
set_option maxRecDepth 100000 in
theorem kw_807 : (Jvm.Cond.methodLink "PuppetTheatre$Play" (139 : Nat) ({ cls := "PuppetTheatre$Chart", name := "enteredInto", desc := "(II)I" } : Jvm.MethodName)) ∈ lw_all := pt_all (List.mem_of_getElem? (i := 807) rfl) (by decide +kernel)
set_option maxRecDepth 100000 in
theorem kw_808 : (Jvm.Cond.instanceMethod ({ cls := "PuppetTheatre$Chart", name := "enteredInto", desc := "(II)I" } : Jvm.MethodName)) ∈ lw_all := pt_all (List.mem_of_getElem? (i := 808) rfl) (by decide +kernel)
set_option maxRecDepth 100000 in
theorem kw_809 : (Jvm.Cond.selects "PuppetTheatre$Chart" ({ cls := "PuppetTheatre$Chart", name := "enteredInto", desc := "(II)I" } : Jvm.MethodName) ({ cls := "PuppetTheatre$Chart", name := "enteredInto", desc := "(II)I" } : Jvm.MethodName)) ∈ lw_all := pt_all (List.mem_of_getElem? (i := 809) rfl) (by decide +kernel)
set_option maxRecDepth 100000 in
theorem kw_810 : (Jvm.Cond.code ({ cls := "PuppetTheatre$Chart", name := "enteredInto", desc := "(II)I" } : Jvm.MethodName) prog_3_method_7_code (6 : Nat) (Option.some Jvm.ClassFile.FieldType.int)) ∈ lw_all := pt_all (List.mem_of_getElem? (i := 810) rfl) (by decide +kernel)
set_option maxRecDepth 100000 in
theorem kw_811 : (Jvm.Cond.methodLink "PuppetTheatre$Chart" (95 : Nat) ({ cls := "PuppetTheatre$Chart", name := "partsAside", desc := "(II)I" } : Jvm.MethodName)) ∈ lw_all := pt_all (List.mem_of_getElem? (i := 811) rfl) (by decide +kernel)
set_option maxRecDepth 100000 in
theorem kw_813 : (Jvm.Cond.instanceMethod ({ cls := "PuppetTheatre$Chart", name := "partsAside", desc := "(II)I" } : Jvm.MethodName)) ∈ lw_all := pt_all (List.mem_of_getElem? (i := 813) rfl) (by decide +kernel)
set_option maxRecDepth 100000 in
theorem kw_814 : (Jvm.Cond.code ({ cls := "PuppetTheatre$Chart", name := "partsAside", desc := "(II)I" } : Jvm.MethodName) prog_3_method_8_code (5 : Nat) (Option.some Jvm.ClassFile.FieldType.int)) ∈ lw_all := pt_all (List.mem_of_getElem? (i := 814) rfl) (by decide +kernel)
set_option maxRecDepth 100000 in
theorem kw_815 : (Jvm.Cond.methodLink "PuppetTheatre$Chart" (98 : Nat) ({ cls := "PuppetTheatre$Chart", name := "filled", desc := "(I)I" } : Jvm.MethodName)) ∈ lw_all := pt_all (List.mem_of_getElem? (i := 815) rfl) (by decide +kernel)
set_option maxRecDepth 100000 in
theorem kw_816 : (Jvm.Cond.methodLink "PuppetTheatre$Play" (146 : Nat) ({ cls := "PuppetTheatre$Play", name := "enter", desc := "(I)V" } : Jvm.MethodName)) ∈ lw_all := pt_all (List.mem_of_getElem? (i := 816) rfl) (by decide +kernel)
set_option maxRecDepth 100000 in
theorem kw_817 : (Jvm.Cond.methodLink "PuppetTheatre$Play" (82 : Nat) ({ cls := "PuppetTheatre$Play", name := "nextEvent", desc := "()I" } : Jvm.MethodName)) ∈ lw_all := pt_all (List.mem_of_getElem? (i := 817) rfl) (by decide +kernel)
set_option maxRecDepth 100000 in
theorem kw_819 : (Jvm.Cond.instanceMethod ({ cls := "PuppetTheatre$Play", name := "nextEvent", desc := "()I" } : Jvm.MethodName)) ∈ lw_all := pt_all (List.mem_of_getElem? (i := 819) rfl) (by decide +kernel)
set_option maxRecDepth 100000 in
theorem kw_820 : (Jvm.Cond.code ({ cls := "PuppetTheatre$Play", name := "nextEvent", desc := "()I" } : Jvm.MethodName) prog_5_method_8_code (3 : Nat) (Option.some Jvm.ClassFile.FieldType.int)) ∈ lw_all := pt_all (List.mem_of_getElem? (i := 820) rfl) (by decide +kernel)
set_option maxRecDepth 100000 in
theorem kw_827 : (Jvm.Cond.code ({ cls := "PuppetTheatre", name := "stop", desc := "()I" } : Jvm.MethodName) prog_1_method_9_code (2 : Nat) (Option.some Jvm.ClassFile.FieldType.int)) ∈ lw_all := pt_all (List.mem_of_getElem? (i := 827) rfl) (by decide +kernel)
set_option maxRecDepth 100000 in
theorem kw_828 : (Jvm.Cond.methodLink "PuppetTheatre" (161 : Nat) ({ cls := "PuppetTheatre", name := "checkRunning", desc := "()V" } : Jvm.MethodName)) ∈ lw_all := pt_all (List.mem_of_getElem? (i := 828) rfl) (by decide +kernel)
set_option maxRecDepth 100000 in
theorem kw_830 : (Jvm.Cond.instanceMethod ({ cls := "PuppetTheatre", name := "checkRunning", desc := "()V" } : Jvm.MethodName)) ∈ lw_all := pt_all (List.mem_of_getElem? (i := 830) rfl) (by decide +kernel)
set_option maxRecDepth 100000 in
theorem kw_831 : (Jvm.Cond.code ({ cls := "PuppetTheatre", name := "checkRunning", desc := "()V" } : Jvm.MethodName) prog_1_method_38_code (1 : Nat) (Option.none : Option Jvm.ClassFile.FieldType)) ∈ lw_all := pt_all (List.mem_of_getElem? (i := 831) rfl) (by decide +kernel)
set_option maxRecDepth 100000 in
theorem kw_832 : (Jvm.Cond.methodLink "PuppetTheatre" (178 : Nat) ({ cls := "PuppetTheatre$Situation", name := "deactivate", desc := "()V" } : Jvm.MethodName)) ∈ lw_all := pt_all (List.mem_of_getElem? (i := 832) rfl) (by decide +kernel)
set_option maxRecDepth 100000 in
theorem kw_839 : (Jvm.Cond.code ({ cls := "PuppetTheatre", name := "send", desc := "(I)I" } : Jvm.MethodName) prog_1_method_10_code (2 : Nat) (Option.some Jvm.ClassFile.FieldType.int)) ∈ lw_all := pt_all (List.mem_of_getElem? (i := 839) rfl) (by decide +kernel)
set_option maxRecDepth 100000 in
theorem kw_840 : (Jvm.Cond.methodLink "PuppetTheatre" (181 : Nat) ({ cls := "PuppetTheatre", name := "checkEvent", desc := "(I)V" } : Jvm.MethodName)) ∈ lw_all := pt_all (List.mem_of_getElem? (i := 840) rfl) (by decide +kernel)
set_option maxRecDepth 100000 in
theorem kw_841 : (Jvm.Cond.static ({ cls := "PuppetTheatre", name := "checkEvent", desc := "(I)V" } : Jvm.MethodName)) ∈ lw_all := pt_all (List.mem_of_getElem? (i := 841) rfl) (by decide +kernel)
set_option maxRecDepth 100000 in
theorem kw_842 : (Jvm.Cond.code ({ cls := "PuppetTheatre", name := "checkEvent", desc := "(I)V" } : Jvm.MethodName) prog_1_method_41_code (1 : Nat) (Option.none : Option Jvm.ClassFile.FieldType)) ∈ lw_all := pt_all (List.mem_of_getElem? (i := 842) rfl) (by decide +kernel)
set_option maxRecDepth 100000 in
theorem kw_849 : (Jvm.Cond.code ({ cls := "PuppetTheatre", name := "tick", desc := "(I)I" } : Jvm.MethodName) prog_1_method_11_code (4 : Nat) (Option.some Jvm.ClassFile.FieldType.int)) ∈ lw_all := pt_all (List.mem_of_getElem? (i := 849) rfl) (by decide +kernel)
set_option maxRecDepth 100000 in
theorem kw_860 : (Jvm.Cond.code ({ cls := "PuppetTheatre", name := "isEnded", desc := "(I)Z" } : Jvm.MethodName) prog_1_method_18_code (2 : Nat) (Option.some Jvm.ClassFile.FieldType.boolean)) ∈ lw_all := pt_all (List.mem_of_getElem? (i := 860) rfl) (by decide +kernel)
set_option maxRecDepth 100000 in
theorem kw_883 : (Jvm.Cond.code ({ cls := "PuppetTheatre", name := "wouldFire", desc := "(I)I" } : Jvm.MethodName) prog_1_method_27_code (2 : Nat) (Option.some Jvm.ClassFile.FieldType.int)) ∈ lw_all := pt_all (List.mem_of_getElem? (i := 883) rfl) (by decide +kernel)
set_option maxRecDepth 100000 in
theorem kw_884 : (Jvm.Cond.methodLink "PuppetTheatre" (218 : Nat) ({ cls := "PuppetTheatre$Situation", name := "copyFrom", desc := "(LPuppetTheatre$Situation;)V" } : Jvm.MethodName)) ∈ lw_all := pt_all (List.mem_of_getElem? (i := 884) rfl) (by decide +kernel)
set_option maxRecDepth 100000 in
theorem kw_885 : (Jvm.Cond.instanceMethod ({ cls := "PuppetTheatre$Situation", name := "copyFrom", desc := "(LPuppetTheatre$Situation;)V" } : Jvm.MethodName)) ∈ lw_all := pt_all (List.mem_of_getElem? (i := 885) rfl) (by decide +kernel)
set_option maxRecDepth 100000 in
theorem kw_886 : (Jvm.Cond.selects "PuppetTheatre$Situation" ({ cls := "PuppetTheatre$Situation", name := "copyFrom", desc := "(LPuppetTheatre$Situation;)V" } : Jvm.MethodName) ({ cls := "PuppetTheatre$Situation", name := "copyFrom", desc := "(LPuppetTheatre$Situation;)V" } : Jvm.MethodName)) ∈ lw_all := pt_all (List.mem_of_getElem? (i := 886) rfl) (by decide +kernel)
set_option maxRecDepth 100000 in
theorem kw_887 : (Jvm.Cond.code ({ cls := "PuppetTheatre$Situation", name := "copyFrom", desc := "(LPuppetTheatre$Situation;)V" } : Jvm.MethodName) prog_6_method_5_code (2 : Nat) (Option.none : Option Jvm.ClassFile.FieldType)) ∈ lw_all := pt_all (List.mem_of_getElem? (i := 887) rfl) (by decide +kernel)
set_option maxRecDepth 100000 in
theorem kw_888 : (Jvm.Cond.methodLink "PuppetTheatre$Situation" (37 : Nat) ({ cls := "java/lang/System", name := "arraycopy", desc := "(Ljava/lang/Object;ILjava/lang/Object;II)V" } : Jvm.MethodName)) ∈ lw_all := pt_all (List.mem_of_getElem? (i := 888) rfl) (by decide +kernel)
set_option maxRecDepth 100000 in
theorem kw_889 : (Jvm.Cond.static ({ cls := "java/lang/System", name := "arraycopy", desc := "(Ljava/lang/Object;ILjava/lang/Object;II)V" } : Jvm.MethodName)) ∈ lw_all := pt_all (List.mem_of_getElem? (i := 889) rfl) (by decide +kernel)
set_option maxRecDepth 100000 in
theorem kw_890 : (Jvm.Cond.native ({ cls := "java/lang/System", name := "arraycopy", desc := "(Ljava/lang/Object;ILjava/lang/Object;II)V" } : Jvm.MethodName)) ∈ lw_all := pt_all (List.mem_of_getElem? (i := 890) rfl) (by decide +kernel)
set_option maxRecDepth 100000 in
theorem kw_897 : (Jvm.Cond.code ({ cls := "PuppetTheatre", name := "wouldBe", desc := "(I)I" } : Jvm.MethodName) prog_1_method_28_code (2 : Nat) (Option.some Jvm.ClassFile.FieldType.int)) ∈ lw_all := pt_all (List.mem_of_getElem? (i := 897) rfl) (by decide +kernel)
set_option maxRecDepth 100000 in
theorem kw_904 : (Jvm.Cond.code ({ cls := "PuppetTheatre", name := "open", desc := "()I" } : Jvm.MethodName) prog_1_method_29_code (3 : Nat) (Option.some Jvm.ClassFile.FieldType.int)) ∈ lw_all := pt_all (List.mem_of_getElem? (i := 904) rfl) (by decide +kernel)
set_option maxRecDepth 100000 in
theorem kw_905 : (Jvm.Cond.methodLink "PuppetTheatre" (222 : Nat) ({ cls := "PuppetTheatre$Play", name := "openBy", desc := "(I)I" } : Jvm.MethodName)) ∈ lw_all := pt_all (List.mem_of_getElem? (i := 905) rfl) (by decide +kernel)
set_option maxRecDepth 100000 in
theorem kw_912 : (Jvm.Cond.code ({ cls := "PuppetTheatre", name := "rowTo", desc := "(II)I" } : Jvm.MethodName) prog_1_method_30_code (3 : Nat) (Option.some Jvm.ClassFile.FieldType.int)) ∈ lw_all := pt_all (List.mem_of_getElem? (i := 912) rfl) (by decide +kernel)
set_option maxRecDepth 100000 in
theorem kw_913 : (Jvm.Cond.methodLink "PuppetTheatre" (225 : Nat) ({ cls := "PuppetTheatre", name := "checkMost", desc := "(I)V" } : Jvm.MethodName)) ∈ lw_all := pt_all (List.mem_of_getElem? (i := 913) rfl) (by decide +kernel)
set_option maxRecDepth 100000 in
theorem kw_914 : (Jvm.Cond.static ({ cls := "PuppetTheatre", name := "checkMost", desc := "(I)V" } : Jvm.MethodName)) ∈ lw_all := pt_all (List.mem_of_getElem? (i := 914) rfl) (by decide +kernel)
set_option maxRecDepth 100000 in
theorem kw_915 : (Jvm.Cond.code ({ cls := "PuppetTheatre", name := "checkMost", desc := "(I)V" } : Jvm.MethodName) prog_1_method_42_code (1 : Nat) (Option.none : Option Jvm.ClassFile.FieldType)) ∈ lw_all := pt_all (List.mem_of_getElem? (i := 915) rfl) (by decide +kernel)
set_option maxRecDepth 100000 in
theorem kw_916 : (Jvm.Cond.methodLink "PuppetTheatre" (228 : Nat) ({ cls := "PuppetTheatre$Look", name := "search", desc := "(LPuppetTheatre$Situation;III)I" } : Jvm.MethodName)) ∈ lw_all := pt_all (List.mem_of_getElem? (i := 916) rfl) (by decide +kernel)
set_option maxRecDepth 100000 in
theorem kw_917 : (Jvm.Cond.instanceMethod ({ cls := "PuppetTheatre$Look", name := "search", desc := "(LPuppetTheatre$Situation;III)I" } : Jvm.MethodName)) ∈ lw_all := pt_all (List.mem_of_getElem? (i := 917) rfl) (by decide +kernel)
set_option maxRecDepth 100000 in
theorem kw_918 : (Jvm.Cond.selects "PuppetTheatre$Look" ({ cls := "PuppetTheatre$Look", name := "search", desc := "(LPuppetTheatre$Situation;III)I" } : Jvm.MethodName) ({ cls := "PuppetTheatre$Look", name := "search", desc := "(LPuppetTheatre$Situation;III)I" } : Jvm.MethodName)) ∈ lw_all := pt_all (List.mem_of_getElem? (i := 918) rfl) (by decide +kernel)
set_option maxRecDepth 100000 in
theorem kw_919 : (Jvm.Cond.code ({ cls := "PuppetTheatre$Look", name := "search", desc := "(LPuppetTheatre$Situation;III)I" } : Jvm.MethodName) prog_4_method_2_code (7 : Nat) (Option.some Jvm.ClassFile.FieldType.int)) ∈ lw_all := pt_all (List.mem_of_getElem? (i := 919) rfl) (by decide +kernel)
set_option maxRecDepth 100000 in
theorem kw_920 : (Jvm.Cond.methodLinkNest "PuppetTheatre$Look" (45 : Nat) ({ cls := "PuppetTheatre", name := "has", desc := "(II)Z" } : Jvm.MethodName) "PuppetTheatre") ∈ lw_all := pt_all (List.mem_of_getElem? (i := 920) rfl) (by decide +kernel)
set_option maxRecDepth 100000 in
theorem kw_921 : (Jvm.Cond.methodLink "PuppetTheatre$Look" (49 : Nat) ({ cls := "PuppetTheatre$Situation", name := "copyFrom", desc := "(LPuppetTheatre$Situation;)V" } : Jvm.MethodName)) ∈ lw_all := pt_all (List.mem_of_getElem? (i := 921) rfl) (by decide +kernel)
set_option maxRecDepth 100000 in
theorem kw_922 : (Jvm.Cond.methodLink "PuppetTheatre$Look" (62 : Nat) ({ cls := "PuppetTheatre$Play", name := "proceed", desc := "(I)I" } : Jvm.MethodName)) ∈ lw_all := pt_all (List.mem_of_getElem? (i := 922) rfl) (by decide +kernel)
set_option maxRecDepth 100000 in
theorem kw_923 : (Jvm.Cond.methodLink "PuppetTheatre$Look" (66 : Nat) ({ cls := "PuppetTheatre$Look", name := "isReached", desc := "(II)Z" } : Jvm.MethodName)) ∈ lw_all := pt_all (List.mem_of_getElem? (i := 923) rfl) (by decide +kernel)
set_option maxRecDepth 100000 in
theorem kw_925 : (Jvm.Cond.instanceMethod ({ cls := "PuppetTheatre$Look", name := "isReached", desc := "(II)Z" } : Jvm.MethodName)) ∈ lw_all := pt_all (List.mem_of_getElem? (i := 925) rfl) (by decide +kernel)
set_option maxRecDepth 100000 in
theorem kw_926 : (Jvm.Cond.code ({ cls := "PuppetTheatre$Look", name := "isReached", desc := "(II)Z" } : Jvm.MethodName) prog_4_method_3_code (3 : Nat) (Option.some Jvm.ClassFile.FieldType.boolean)) ∈ lw_all := pt_all (List.mem_of_getElem? (i := 926) rfl) (by decide +kernel)
set_option maxRecDepth 100000 in
theorem kw_927 : (Jvm.Cond.methodLink "PuppetTheatre$Look" (69 : Nat) ({ cls := "PuppetTheatre$Look", name := "writeRow", desc := "(II)V" } : Jvm.MethodName)) ∈ lw_all := pt_all (List.mem_of_getElem? (i := 927) rfl) (by decide +kernel)
set_option maxRecDepth 100000 in
theorem kw_929 : (Jvm.Cond.instanceMethod ({ cls := "PuppetTheatre$Look", name := "writeRow", desc := "(II)V" } : Jvm.MethodName)) ∈ lw_all := pt_all (List.mem_of_getElem? (i := 929) rfl) (by decide +kernel)
set_option maxRecDepth 100000 in
theorem kw_930 : (Jvm.Cond.code ({ cls := "PuppetTheatre$Look", name := "writeRow", desc := "(II)V" } : Jvm.MethodName) prog_4_method_5_code (5 : Nat) (Option.none : Option Jvm.ClassFile.FieldType)) ∈ lw_all := pt_all (List.mem_of_getElem? (i := 930) rfl) (by decide +kernel)
set_option maxRecDepth 100000 in
theorem kw_931 : (Jvm.Cond.methodLink "PuppetTheatre$Look" (73 : Nat) ({ cls := "PuppetTheatre$Look", name := "keepIfNew", desc := "(II)V" } : Jvm.MethodName)) ∈ lw_all := pt_all (List.mem_of_getElem? (i := 931) rfl) (by decide +kernel)
set_option maxRecDepth 100000 in
theorem kw_933 : (Jvm.Cond.instanceMethod ({ cls := "PuppetTheatre$Look", name := "keepIfNew", desc := "(II)V" } : Jvm.MethodName)) ∈ lw_all := pt_all (List.mem_of_getElem? (i := 933) rfl) (by decide +kernel)
set_option maxRecDepth 100000 in
theorem kw_934 : (Jvm.Cond.code ({ cls := "PuppetTheatre$Look", name := "keepIfNew", desc := "(II)V" } : Jvm.MethodName) prog_4_method_4_code (4 : Nat) (Option.none : Option Jvm.ClassFile.FieldType)) ∈ lw_all := pt_all (List.mem_of_getElem? (i := 934) rfl) (by decide +kernel)
set_option maxRecDepth 100000 in
theorem kw_935 : (Jvm.Cond.methodLink "PuppetTheatre$Look" (79 : Nat) ({ cls := "PuppetTheatre$Situation", name := "isSameAs", desc := "(LPuppetTheatre$Situation;)Z" } : Jvm.MethodName)) ∈ lw_all := pt_all (List.mem_of_getElem? (i := 935) rfl) (by decide +kernel)
set_option maxRecDepth 100000 in
theorem kw_936 : (Jvm.Cond.instanceMethod ({ cls := "PuppetTheatre$Situation", name := "isSameAs", desc := "(LPuppetTheatre$Situation;)Z" } : Jvm.MethodName)) ∈ lw_all := pt_all (List.mem_of_getElem? (i := 936) rfl) (by decide +kernel)
set_option maxRecDepth 100000 in
theorem kw_937 : (Jvm.Cond.selects "PuppetTheatre$Situation" ({ cls := "PuppetTheatre$Situation", name := "isSameAs", desc := "(LPuppetTheatre$Situation;)Z" } : Jvm.MethodName) ({ cls := "PuppetTheatre$Situation", name := "isSameAs", desc := "(LPuppetTheatre$Situation;)Z" } : Jvm.MethodName)) ∈ lw_all := pt_all (List.mem_of_getElem? (i := 937) rfl) (by decide +kernel)
set_option maxRecDepth 100000 in
theorem kw_938 : (Jvm.Cond.code ({ cls := "PuppetTheatre$Situation", name := "isSameAs", desc := "(LPuppetTheatre$Situation;)Z" } : Jvm.MethodName) prog_6_method_6_code (3 : Nat) (Option.some Jvm.ClassFile.FieldType.boolean)) ∈ lw_all := pt_all (List.mem_of_getElem? (i := 938) rfl) (by decide +kernel)
set_option maxRecDepth 100000 in
theorem kw_945 : (Jvm.Cond.code ({ cls := "PuppetTheatre", name := "rowFor", desc := "(II)I" } : Jvm.MethodName) prog_1_method_31_code (3 : Nat) (Option.some Jvm.ClassFile.FieldType.int)) ∈ lw_all := pt_all (List.mem_of_getElem? (i := 945) rfl) (by decide +kernel)
set_option maxRecDepth 100000 in
theorem kw_950 : (Jvm.Cond.code ({ cls := "PuppetTheatreModel", name := "<init>", desc := "()V" } : Jvm.MethodName) prog_10_method_2_code (1 : Nat) (Option.none : Option Jvm.ClassFile.FieldType)) ∈ lw_all := pt_all (List.mem_of_getElem? (i := 950) rfl) (by decide +kernel)
set_option maxRecDepth 100000 in
theorem kw_951 : (Jvm.Cond.methodLink "PuppetTheatreModel" (1 : Nat) ({ cls := "java/lang/Object", name := "<init>", desc := "()V" } : Jvm.MethodName)) ∈ lw_all := pt_all (List.mem_of_getElem? (i := 951) rfl) (by decide +kernel)
set_option maxRecDepth 100000 in
theorem kw_952 : (Jvm.Cond.classLink "PuppetTheatreModel" (7 : Nat) "PuppetTheatreModel$Chart") ∈ lw_all := pt_all (List.mem_of_getElem? (i := 952) rfl) (by decide +kernel)
set_option maxRecDepth 100000 in
theorem kw_953 : (Jvm.Cond.instantiable "PuppetTheatreModel$Chart" (2 : Nat)) ∈ lw_all := pt_all (List.mem_of_getElem? (i := 953) rfl) (by decide +kernel)
set_option maxRecDepth 100000 in
theorem kw_954 : (Jvm.Cond.methodLinkNest "PuppetTheatreModel" (9 : Nat) ({ cls := "PuppetTheatreModel$Chart", name := "<init>", desc := "()V" } : Jvm.MethodName) "PuppetTheatreModel") ∈ lw_all := pt_all (List.mem_of_getElem? (i := 954) rfl) (by decide +kernel)
set_option maxRecDepth 100000 in
theorem kw_955 : (Jvm.Cond.instanceMethod ({ cls := "PuppetTheatreModel$Chart", name := "<init>", desc := "()V" } : Jvm.MethodName)) ∈ lw_all := pt_all (List.mem_of_getElem? (i := 955) rfl) (by decide +kernel)
set_option maxRecDepth 100000 in
theorem kw_956 : (Jvm.Cond.code ({ cls := "PuppetTheatreModel$Chart", name := "<init>", desc := "()V" } : Jvm.MethodName) prog_11_method_1_code (1 : Nat) (Option.none : Option Jvm.ClassFile.FieldType)) ∈ lw_all := pt_all (List.mem_of_getElem? (i := 956) rfl) (by decide +kernel)
set_option maxRecDepth 100000 in
theorem kw_957 : (Jvm.Cond.methodLink "PuppetTheatreModel$Chart" (3 : Nat) ({ cls := "java/lang/Object", name := "<init>", desc := "()V" } : Jvm.MethodName)) ∈ lw_all := pt_all (List.mem_of_getElem? (i := 957) rfl) (by decide +kernel)
set_option maxRecDepth 100000 in
theorem kw_958 : (Jvm.Cond.classLink "PuppetTheatreModel$Chart" (9 : Nat) "java/util/ArrayList") ∈ lw_all := pt_all (List.mem_of_getElem? (i := 958) rfl) (by decide +kernel)
set_option maxRecDepth 100000 in
theorem kw_959 : (Jvm.Cond.instantiable "java/util/ArrayList" (3 : Nat)) ∈ lw_all := pt_all (List.mem_of_getElem? (i := 959) rfl) (by decide +kernel)
set_option maxRecDepth 100000 in
theorem kw_960 : (Jvm.Cond.methodLink "PuppetTheatreModel$Chart" (11 : Nat) ({ cls := "java/util/ArrayList", name := "<init>", desc := "()V" } : Jvm.MethodName)) ∈ lw_all := pt_all (List.mem_of_getElem? (i := 960) rfl) (by decide +kernel)
set_option maxRecDepth 100000 in
theorem kw_961 : (Jvm.Cond.instanceMethod ({ cls := "java/util/ArrayList", name := "<init>", desc := "()V" } : Jvm.MethodName)) ∈ lw_all := pt_all (List.mem_of_getElem? (i := 961) rfl) (by decide +kernel)
set_option maxRecDepth 100000 in
theorem kw_962 : (Jvm.Cond.code ({ cls := "java/util/ArrayList", name := "<init>", desc := "()V" } : Jvm.MethodName) prog_34_method_2_code (1 : Nat) (Option.none : Option Jvm.ClassFile.FieldType)) ∈ lw_all := pt_all (List.mem_of_getElem? (i := 962) rfl) (by decide +kernel)
set_option maxRecDepth 100000 in
theorem kw_963 : (Jvm.Cond.methodLink "java/util/ArrayList" (1 : Nat) ({ cls := "java/util/AbstractList", name := "<init>", desc := "()V" } : Jvm.MethodName)) ∈ lw_all := pt_all (List.mem_of_getElem? (i := 963) rfl) (by decide +kernel)
set_option maxRecDepth 100000 in
theorem kw_964 : (Jvm.Cond.instanceMethod ({ cls := "java/util/AbstractList", name := "<init>", desc := "()V" } : Jvm.MethodName)) ∈ lw_all := pt_all (List.mem_of_getElem? (i := 964) rfl) (by decide +kernel)
set_option maxRecDepth 100000 in
theorem kw_965 : (Jvm.Cond.code ({ cls := "java/util/AbstractList", name := "<init>", desc := "()V" } : Jvm.MethodName) prog_33_method_1_code (1 : Nat) (Option.none : Option Jvm.ClassFile.FieldType)) ∈ lw_all := pt_all (List.mem_of_getElem? (i := 965) rfl) (by decide +kernel)
set_option maxRecDepth 100000 in
theorem kw_966 : (Jvm.Cond.methodLink "java/util/AbstractList" (1 : Nat) ({ cls := "java/util/AbstractCollection", name := "<init>", desc := "()V" } : Jvm.MethodName)) ∈ lw_all := pt_all (List.mem_of_getElem? (i := 966) rfl) (by decide +kernel)
set_option maxRecDepth 100000 in
theorem kw_967 : (Jvm.Cond.instanceMethod ({ cls := "java/util/AbstractCollection", name := "<init>", desc := "()V" } : Jvm.MethodName)) ∈ lw_all := pt_all (List.mem_of_getElem? (i := 967) rfl) (by decide +kernel)
set_option maxRecDepth 100000 in
theorem kw_968 : (Jvm.Cond.code ({ cls := "java/util/AbstractCollection", name := "<init>", desc := "()V" } : Jvm.MethodName) prog_32_method_1_code (1 : Nat) (Option.none : Option Jvm.ClassFile.FieldType)) ∈ lw_all := pt_all (List.mem_of_getElem? (i := 968) rfl) (by decide +kernel)
set_option maxRecDepth 100000 in
theorem kw_969 : (Jvm.Cond.methodLink "java/util/AbstractCollection" (1 : Nat) ({ cls := "java/lang/Object", name := "<init>", desc := "()V" } : Jvm.MethodName)) ∈ lw_all := pt_all (List.mem_of_getElem? (i := 969) rfl) (by decide +kernel)
set_option maxRecDepth 100000 in
theorem kw_970 : (Jvm.Cond.fieldLink "java/util/ArrayList" (39 : Nat) "java/util/ArrayList" "DEFAULTCAPACITY_EMPTY_ELEMENTDATA" "[Ljava/lang/Object;") ∈ lw_all := pt_all (List.mem_of_getElem? (i := 970) rfl) (by decide +kernel)
set_option maxRecDepth 100000 in
theorem kw_972 : (Jvm.Cond.fieldLink "java/util/ArrayList" (9 : Nat) "java/util/ArrayList" "elementData" "[Ljava/lang/Object;") ∈ lw_all := pt_all (List.mem_of_getElem? (i := 972) rfl) (by decide +kernel)
set_option maxRecDepth 100000 in
theorem kw_973 : (Jvm.Cond.fieldLink "java/util/ArrayList" (48 : Nat) "java/util/ArrayList" "size" "I") ∈ lw_all := pt_all (List.mem_of_getElem? (i := 973) rfl) (by decide +kernel)
set_option maxRecDepth 100000 in
theorem kw_974 : (Jvm.Cond.fieldLink "java/util/AbstractList" (7 : Nat) "java/util/AbstractList" "modCount" "I") ∈ lw_all := pt_all (List.mem_of_getElem? (i := 974) rfl) (by decide +kernel)
set_option maxRecDepth 100000 in
theorem kw_975 : (Jvm.Cond.fieldLink "java/util/ArrayList" (63 : Nat) "java/util/ArrayList" "modCount" "I") ∈ lw_all := pt_all (List.mem_of_getElem? (i := 975) rfl) (by decide +kernel)
set_option maxRecDepth 100000 in
theorem kw_976 : (Jvm.Cond.sameField "java/util/ArrayList" "java/util/AbstractList" "modCount" "I") ∈ lw_all := pt_all (List.mem_of_getElem? (i := 976) rfl) (by decide +kernel)
set_option maxRecDepth 100000 in
theorem kw_984 : (Jvm.Cond.fieldLink "PuppetTheatreModel$Chart" (12 : Nat) "PuppetTheatreModel$Chart" "states" "Ljava/util/ArrayList;") ∈ lw_all := pt_all (List.mem_of_getElem? (i := 984) rfl) (by decide +kernel)
set_option maxRecDepth 100000 in
theorem kw_985 : (Jvm.Cond.fieldLink "PuppetTheatreModel" (29 : Nat) "PuppetTheatreModel$Chart" "states" "Ljava/util/ArrayList;") ∈ lw_all := pt_all (List.mem_of_getElem? (i := 985) rfl) (by decide +kernel)
set_option maxRecDepth 100000 in
theorem kw_986 : (Jvm.Cond.fieldLink "PuppetTheatreModel$Run" (68 : Nat) "PuppetTheatreModel$Chart" "states" "Ljava/util/ArrayList;") ∈ lw_all := pt_all (List.mem_of_getElem? (i := 986) rfl) (by decide +kernel)
set_option maxRecDepth 100000 in
theorem kw_987 : (Jvm.Cond.fieldLink "PuppetTheatreModel$Chart" (18 : Nat) "PuppetTheatreModel$Chart" "transitions" "Ljava/util/ArrayList;") ∈ lw_all := pt_all (List.mem_of_getElem? (i := 987) rfl) (by decide +kernel)
set_option maxRecDepth 100000 in
theorem kw_988 : (Jvm.Cond.fieldLink "PuppetTheatreModel" (60 : Nat) "PuppetTheatreModel$Chart" "transitions" "Ljava/util/ArrayList;") ∈ lw_all := pt_all (List.mem_of_getElem? (i := 988) rfl) (by decide +kernel)
set_option maxRecDepth 100000 in
theorem kw_989 : (Jvm.Cond.fieldLink "PuppetTheatreModel$Run" (145 : Nat) "PuppetTheatreModel$Chart" "transitions" "Ljava/util/ArrayList;") ∈ lw_all := pt_all (List.mem_of_getElem? (i := 989) rfl) (by decide +kernel)
set_option maxRecDepth 100000 in
theorem kw_995 : (Jvm.Cond.classLink "PuppetTheatreModel" (16 : Nat) "PuppetTheatreModel$Run") ∈ lw_all := pt_all (List.mem_of_getElem? (i := 995) rfl) (by decide +kernel)
set_option maxRecDepth 100000 in
theorem kw_996 : (Jvm.Cond.instantiable "PuppetTheatreModel$Run" (11 : Nat)) ∈ lw_all := pt_all (List.mem_of_getElem? (i := 996) rfl) (by decide +kernel)
set_option maxRecDepth 100000 in
theorem kw_997 : (Jvm.Cond.methodLinkNest "PuppetTheatreModel" (18 : Nat) ({ cls := "PuppetTheatreModel$Run", name := "<init>", desc := "(LPuppetTheatreModel;)V" } : Jvm.MethodName) "PuppetTheatreModel") ∈ lw_all := pt_all (List.mem_of_getElem? (i := 997) rfl) (by decide +kernel)
set_option maxRecDepth 100000 in
theorem kw_998 : (Jvm.Cond.instanceMethod ({ cls := "PuppetTheatreModel$Run", name := "<init>", desc := "(LPuppetTheatreModel;)V" } : Jvm.MethodName)) ∈ lw_all := pt_all (List.mem_of_getElem? (i := 998) rfl) (by decide +kernel)
set_option maxRecDepth 100000 in
theorem kw_999 : (Jvm.Cond.code ({ cls := "PuppetTheatreModel$Run", name := "<init>", desc := "(LPuppetTheatreModel;)V" } : Jvm.MethodName) prog_12_method_1_code (2 : Nat) (Option.none : Option Jvm.ClassFile.FieldType)) ∈ lw_all := pt_all (List.mem_of_getElem? (i := 999) rfl) (by decide +kernel)
set_option maxRecDepth 100000 in
theorem kw_1000 : (Jvm.Cond.methodLink "PuppetTheatreModel$Run" (9 : Nat) ({ cls := "java/lang/Object", name := "<init>", desc := "()V" } : Jvm.MethodName)) ∈ lw_all := pt_all (List.mem_of_getElem? (i := 1000) rfl) (by decide +kernel)
set_option maxRecDepth 100000 in
theorem kw_1001 : (Jvm.Cond.classLink "PuppetTheatreModel$Run" (28 : Nat) "java/util/ArrayList") ∈ lw_all := pt_all (List.mem_of_getElem? (i := 1001) rfl) (by decide +kernel)
set_option maxRecDepth 100000 in
theorem kw_1002 : (Jvm.Cond.methodLink "PuppetTheatreModel$Run" (30 : Nat) ({ cls := "java/util/ArrayList", name := "<init>", desc := "()V" } : Jvm.MethodName)) ∈ lw_all := pt_all (List.mem_of_getElem? (i := 1002) rfl) (by decide +kernel)
set_option maxRecDepth 100000 in
theorem kw_1003 : (Jvm.Cond.fieldLink "PuppetTheatreModel$Run" (38 : Nat) "PuppetTheatreModel$Run" "isRunning" "Z") ∈ lw_all := pt_all (List.mem_of_getElem? (i := 1003) rfl) (by decide +kernel)
set_option maxRecDepth 100000 in
theorem kw_1004 : (Jvm.Cond.fieldLink "PuppetTheatreModel" (63 : Nat) "PuppetTheatreModel$Run" "isRunning" "Z") ∈ lw_all := pt_all (List.mem_of_getElem? (i := 1004) rfl) (by decide +kernel)
set_option maxRecDepth 100000 in
theorem kw_1005 : (Jvm.Cond.fieldLink "PuppetTheatreModel$Run" (42 : Nat) "PuppetTheatreModel$Run" "active" "I") ∈ lw_all := pt_all (List.mem_of_getElem? (i := 1005) rfl) (by decide +kernel)
set_option maxRecDepth 100000 in
theorem kw_1006 : (Jvm.Cond.fieldLink "PuppetTheatreModel" (126 : Nat) "PuppetTheatreModel$Run" "active" "I") ∈ lw_all := pt_all (List.mem_of_getElem? (i := 1006) rfl) (by decide +kernel)
set_option maxRecDepth 100000 in
theorem kw_1007 : (Jvm.Cond.fieldLink "PuppetTheatreModel$Run" (15 : Nat) "PuppetTheatreModel$Run" "ages" "[I") ∈ lw_all := pt_all (List.mem_of_getElem? (i := 1007) rfl) (by decide +kernel)
set_option maxRecDepth 100000 in
theorem kw_1008 : (Jvm.Cond.fieldLink "PuppetTheatreModel" (156 : Nat) "PuppetTheatreModel$Run" "ages" "[I") ∈ lw_all := pt_all (List.mem_of_getElem? (i := 1008) rfl) (by decide +kernel)
set_option maxRecDepth 100000 in
theorem kw_1009 : (Jvm.Cond.fieldLink "PuppetTheatreModel$Run" (19 : Nat) "PuppetTheatreModel$Run" "records" "[I") ∈ lw_all := pt_all (List.mem_of_getElem? (i := 1009) rfl) (by decide +kernel)
set_option maxRecDepth 100000 in
theorem kw_1010 : (Jvm.Cond.fieldLink "PuppetTheatreModel" (162 : Nat) "PuppetTheatreModel$Run" "records" "[I") ∈ lw_all := pt_all (List.mem_of_getElem? (i := 1010) rfl) (by decide +kernel)
set_option maxRecDepth 100000 in
theorem kw_1011 : (Jvm.Cond.fieldLink "PuppetTheatreModel$Run" (22 : Nat) "PuppetTheatreModel$Run" "variables" "[I") ∈ lw_all := pt_all (List.mem_of_getElem? (i := 1011) rfl) (by decide +kernel)
set_option maxRecDepth 100000 in
theorem kw_1012 : (Jvm.Cond.fieldLink "PuppetTheatreModel" (165 : Nat) "PuppetTheatreModel$Run" "variables" "[I") ∈ lw_all := pt_all (List.mem_of_getElem? (i := 1012) rfl) (by decide +kernel)
set_option maxRecDepth 100000 in
theorem kw_1013 : (Jvm.Cond.fieldLink "PuppetTheatreModel$Run" (25 : Nat) "PuppetTheatreModel$Run" "fired" "[I") ∈ lw_all := pt_all (List.mem_of_getElem? (i := 1013) rfl) (by decide +kernel)
set_option maxRecDepth 100000 in
theorem kw_1014 : (Jvm.Cond.fieldLink "PuppetTheatreModel" (171 : Nat) "PuppetTheatreModel$Run" "fired" "[I") ∈ lw_all := pt_all (List.mem_of_getElem? (i := 1014) rfl) (by decide +kernel)
set_option maxRecDepth 100000 in
theorem kw_1015 : (Jvm.Cond.fieldLink "PuppetTheatreModel$Run" (31 : Nat) "PuppetTheatreModel$Run" "queue" "Ljava/util/ArrayList;") ∈ lw_all := pt_all (List.mem_of_getElem? (i := 1015) rfl) (by decide +kernel)
set_option maxRecDepth 100000 in
theorem kw_1016 : (Jvm.Cond.fieldLink "PuppetTheatreModel$Run" (55 : Nat) "PuppetTheatreModel$Run" "clock" "I") ∈ lw_all := pt_all (List.mem_of_getElem? (i := 1016) rfl) (by decide +kernel)
set_option maxRecDepth 100000 in
theorem kw_1017 : (Jvm.Cond.fieldLink "PuppetTheatreModel" (168 : Nat) "PuppetTheatreModel$Run" "clock" "I") ∈ lw_all := pt_all (List.mem_of_getElem? (i := 1017) rfl) (by decide +kernel)
set_option maxRecDepth 100000 in
theorem kw_1018 : (Jvm.Cond.fieldLink "PuppetTheatreModel$Run" (58 : Nat) "PuppetTheatreModel$Run" "lost" "I") ∈ lw_all := pt_all (List.mem_of_getElem? (i := 1018) rfl) (by decide +kernel)
set_option maxRecDepth 100000 in
theorem kw_1019 : (Jvm.Cond.fieldLink "PuppetTheatreModel" (177 : Nat) "PuppetTheatreModel$Run" "lost" "I") ∈ lw_all := pt_all (List.mem_of_getElem? (i := 1019) rfl) (by decide +kernel)
set_option maxRecDepth 100000 in
theorem kw_1020 : (Jvm.Cond.fieldLink "PuppetTheatreModel$Run" (61 : Nat) "PuppetTheatreModel$Run" "restless" "I") ∈ lw_all := pt_all (List.mem_of_getElem? (i := 1020) rfl) (by decide +kernel)
set_option maxRecDepth 100000 in
theorem kw_1021 : (Jvm.Cond.fieldLink "PuppetTheatreModel" (180 : Nat) "PuppetTheatreModel$Run" "restless" "I") ∈ lw_all := pt_all (List.mem_of_getElem? (i := 1021) rfl) (by decide +kernel)
set_option maxRecDepth 100000 in
theorem kw_1022 : (Jvm.Cond.fieldLink "PuppetTheatreModel$Run" (3 : Nat) "PuppetTheatreModel$Run" "this$0" "LPuppetTheatreModel;") ∈ lw_all := pt_all (List.mem_of_getElem? (i := 1022) rfl) (by decide +kernel)
set_option maxRecDepth 100000 in
theorem kw_1046 : (Jvm.Cond.classLink "PuppetTheatreModel" (33 : Nat) "PuppetTheatreModel$State") ∈ lw_all := pt_all (List.mem_of_getElem? (i := 1046) rfl) (by decide +kernel)
set_option maxRecDepth 100000 in
theorem kw_1047 : (Jvm.Cond.instantiable "PuppetTheatreModel$State" (5 : Nat)) ∈ lw_all := pt_all (List.mem_of_getElem? (i := 1047) rfl) (by decide +kernel)
set_option maxRecDepth 100000 in
theorem kw_1048 : (Jvm.Cond.methodLink "PuppetTheatreModel" (35 : Nat) ({ cls := "PuppetTheatreModel$State", name := "<init>", desc := "(II)V" } : Jvm.MethodName)) ∈ lw_all := pt_all (List.mem_of_getElem? (i := 1048) rfl) (by decide +kernel)
set_option maxRecDepth 100000 in
theorem kw_1049 : (Jvm.Cond.instanceMethod ({ cls := "PuppetTheatreModel$State", name := "<init>", desc := "(II)V" } : Jvm.MethodName)) ∈ lw_all := pt_all (List.mem_of_getElem? (i := 1049) rfl) (by decide +kernel)
set_option maxRecDepth 100000 in
theorem kw_1050 : (Jvm.Cond.code ({ cls := "PuppetTheatreModel$State", name := "<init>", desc := "(II)V" } : Jvm.MethodName) prog_13_method_1_code (3 : Nat) (Option.none : Option Jvm.ClassFile.FieldType)) ∈ lw_all := pt_all (List.mem_of_getElem? (i := 1050) rfl) (by decide +kernel)
set_option maxRecDepth 100000 in
theorem kw_1051 : (Jvm.Cond.methodLink "PuppetTheatreModel$State" (3 : Nat) ({ cls := "java/lang/Object", name := "<init>", desc := "()V" } : Jvm.MethodName)) ∈ lw_all := pt_all (List.mem_of_getElem? (i := 1051) rfl) (by decide +kernel)
set_option maxRecDepth 100000 in
theorem kw_1052 : (Jvm.Cond.fieldLinkNest "PuppetTheatreModel$State" (15 : Nat) "PuppetTheatreModel" "NOTHING" "[I" "PuppetTheatreModel") ∈ lw_all := pt_all (List.mem_of_getElem? (i := 1052) rfl) (by decide +kernel)
set_option maxRecDepth 100000 in
theorem kw_1054 : (Jvm.Cond.fieldLink "PuppetTheatreModel$State" (25 : Nat) "PuppetTheatreModel$State" "parent" "I") ∈ lw_all := pt_all (List.mem_of_getElem? (i := 1054) rfl) (by decide +kernel)
set_option maxRecDepth 100000 in
theorem kw_1055 : (Jvm.Cond.fieldLink "PuppetTheatreModel$Chart" (27 : Nat) "PuppetTheatreModel$State" "parent" "I") ∈ lw_all := pt_all (List.mem_of_getElem? (i := 1055) rfl) (by decide +kernel)
set_option maxRecDepth 100000 in
theorem kw_1056 : (Jvm.Cond.fieldLink "PuppetTheatreModel$Run" (189 : Nat) "PuppetTheatreModel$State" "parent" "I") ∈ lw_all := pt_all (List.mem_of_getElem? (i := 1056) rfl) (by decide +kernel)
set_option maxRecDepth 100000 in
theorem kw_1057 : (Jvm.Cond.fieldLink "PuppetTheatreModel$State" (28 : Nat) "PuppetTheatreModel$State" "kind" "I") ∈ lw_all := pt_all (List.mem_of_getElem? (i := 1057) rfl) (by decide +kernel)
set_option maxRecDepth 100000 in
theorem kw_1058 : (Jvm.Cond.fieldLink "PuppetTheatreModel$Chart" (31 : Nat) "PuppetTheatreModel$State" "kind" "I") ∈ lw_all := pt_all (List.mem_of_getElem? (i := 1058) rfl) (by decide +kernel)
set_option maxRecDepth 100000 in
theorem kw_1059 : (Jvm.Cond.fieldLink "PuppetTheatreModel$Run" (191 : Nat) "PuppetTheatreModel$State" "kind" "I") ∈ lw_all := pt_all (List.mem_of_getElem? (i := 1059) rfl) (by decide +kernel)
set_option maxRecDepth 100000 in
theorem kw_1060 : (Jvm.Cond.fieldLink "PuppetTheatreModel$State" (9 : Nat) "PuppetTheatreModel$State" "first" "I") ∈ lw_all := pt_all (List.mem_of_getElem? (i := 1060) rfl) (by decide +kernel)
set_option maxRecDepth 100000 in
theorem kw_1061 : (Jvm.Cond.fieldLink "PuppetTheatreModel$Chart" (50 : Nat) "PuppetTheatreModel$State" "first" "I") ∈ lw_all := pt_all (List.mem_of_getElem? (i := 1061) rfl) (by decide +kernel)
set_option maxRecDepth 100000 in
theorem kw_1062 : (Jvm.Cond.fieldLink "PuppetTheatreModel" (96 : Nat) "PuppetTheatreModel$State" "first" "I") ∈ lw_all := pt_all (List.mem_of_getElem? (i := 1062) rfl) (by decide +kernel)
set_option maxRecDepth 100000 in
theorem kw_1063 : (Jvm.Cond.fieldLink "PuppetTheatreModel$State" (19 : Nat) "PuppetTheatreModel$State" "entering" "[I") ∈ lw_all := pt_all (List.mem_of_getElem? (i := 1063) rfl) (by decide +kernel)
set_option maxRecDepth 100000 in
theorem kw_1064 : (Jvm.Cond.fieldLink "PuppetTheatreModel$Run" (120 : Nat) "PuppetTheatreModel$State" "entering" "[I") ∈ lw_all := pt_all (List.mem_of_getElem? (i := 1064) rfl) (by decide +kernel)
set_option maxRecDepth 100000 in
theorem kw_1065 : (Jvm.Cond.fieldLink "PuppetTheatreModel" (107 : Nat) "PuppetTheatreModel$State" "entering" "[I") ∈ lw_all := pt_all (List.mem_of_getElem? (i := 1065) rfl) (by decide +kernel)
set_option maxRecDepth 100000 in
theorem kw_1066 : (Jvm.Cond.fieldLink "PuppetTheatreModel$State" (22 : Nat) "PuppetTheatreModel$State" "leaving" "[I") ∈ lw_all := pt_all (List.mem_of_getElem? (i := 1066) rfl) (by decide +kernel)
set_option maxRecDepth 100000 in
theorem kw_1067 : (Jvm.Cond.fieldLink "PuppetTheatreModel" (104 : Nat) "PuppetTheatreModel$State" "leaving" "[I") ∈ lw_all := pt_all (List.mem_of_getElem? (i := 1067) rfl) (by decide +kernel)
set_option maxRecDepth 100000 in
theorem kw_1068 : (Jvm.Cond.fieldLink "PuppetTheatreModel$Run" (196 : Nat) "PuppetTheatreModel$State" "leaving" "[I") ∈ lw_all := pt_all (List.mem_of_getElem? (i := 1068) rfl) (by decide +kernel)
set_option maxRecDepth 100000 in
theorem kw_1080 : (Jvm.Cond.methodLink "PuppetTheatreModel" (38 : Nat) ({ cls := "java/util/ArrayList", name := "add", desc := "(Ljava/lang/Object;)Z" } : Jvm.MethodName)) ∈ lw_all := pt_all (List.mem_of_getElem? (i := 1080) rfl) (by decide +kernel)
set_option maxRecDepth 100000 in
theorem kw_1081 : (Jvm.Cond.instanceMethod ({ cls := "java/util/ArrayList", name := "add", desc := "(Ljava/lang/Object;)Z" } : Jvm.MethodName)) ∈ lw_all := pt_all (List.mem_of_getElem? (i := 1081) rfl) (by decide +kernel)
set_option maxRecDepth 100000 in
theorem kw_1082 : (Jvm.Cond.selects "java/util/ArrayList" ({ cls := "java/util/ArrayList", name := "add", desc := "(Ljava/lang/Object;)Z" } : Jvm.MethodName) ({ cls := "java/util/ArrayList", name := "add", desc := "(Ljava/lang/Object;)Z" } : Jvm.MethodName)) ∈ lw_all := pt_all (List.mem_of_getElem? (i := 1082) rfl) (by decide +kernel)
set_option maxRecDepth 100000 in
theorem kw_1083 : (Jvm.Cond.code ({ cls := "java/util/ArrayList", name := "add", desc := "(Ljava/lang/Object;)Z" } : Jvm.MethodName) prog_34_method_25_code (2 : Nat) (Option.some Jvm.ClassFile.FieldType.boolean)) ∈ lw_all := pt_all (List.mem_of_getElem? (i := 1083) rfl) (by decide +kernel)
set_option maxRecDepth 100000 in
theorem kw_1084 : (Jvm.Cond.methodLink "java/util/ArrayList" (131 : Nat) ({ cls := "java/util/ArrayList", name := "add", desc := "(Ljava/lang/Object;[Ljava/lang/Object;I)V" } : Jvm.MethodName)) ∈ lw_all := pt_all (List.mem_of_getElem? (i := 1084) rfl) (by decide +kernel)
set_option maxRecDepth 100000 in
theorem kw_1086 : (Jvm.Cond.instanceMethod ({ cls := "java/util/ArrayList", name := "add", desc := "(Ljava/lang/Object;[Ljava/lang/Object;I)V" } : Jvm.MethodName)) ∈ lw_all := pt_all (List.mem_of_getElem? (i := 1086) rfl) (by decide +kernel)
set_option maxRecDepth 100000 in
theorem kw_1087 : (Jvm.Cond.code ({ cls := "java/util/ArrayList", name := "add", desc := "(Ljava/lang/Object;[Ljava/lang/Object;I)V" } : Jvm.MethodName) prog_34_method_24_code (4 : Nat) (Option.none : Option Jvm.ClassFile.FieldType)) ∈ lw_all := pt_all (List.mem_of_getElem? (i := 1087) rfl) (by decide +kernel)
set_option maxRecDepth 100000 in
theorem kw_1088 : (Jvm.Cond.methodLink "java/util/ArrayList" (129 : Nat) ({ cls := "java/util/ArrayList", name := "grow", desc := "()[Ljava/lang/Object;" } : Jvm.MethodName)) ∈ lw_all := pt_all (List.mem_of_getElem? (i := 1088) rfl) (by decide +kernel)
set_option maxRecDepth 100000 in
theorem kw_1090 : (Jvm.Cond.instanceMethod ({ cls := "java/util/ArrayList", name := "grow", desc := "()[Ljava/lang/Object;" } : Jvm.MethodName)) ∈ lw_all := pt_all (List.mem_of_getElem? (i := 1090) rfl) (by decide +kernel)
set_option maxRecDepth 100000 in
theorem kw_1091 : (Jvm.Cond.code ({ cls := "java/util/ArrayList", name := "grow", desc := "()[Ljava/lang/Object;" } : Jvm.MethodName) prog_34_method_7_code (1 : Nat) (Option.some (Jvm.ClassFile.FieldType.array (Jvm.ClassFile.FieldType.object "java/lang/Object")))) ∈ lw_all := pt_all (List.mem_of_getElem? (i := 1091) rfl) (by decide +kernel)
set_option maxRecDepth 100000 in
theorem kw_1092 : (Jvm.Cond.methodLink "java/util/ArrayList" (69 : Nat) ({ cls := "java/util/ArrayList", name := "grow", desc := "(I)[Ljava/lang/Object;" } : Jvm.MethodName)) ∈ lw_all := pt_all (List.mem_of_getElem? (i := 1092) rfl) (by decide +kernel)
set_option maxRecDepth 100000 in
theorem kw_1094 : (Jvm.Cond.instanceMethod ({ cls := "java/util/ArrayList", name := "grow", desc := "(I)[Ljava/lang/Object;" } : Jvm.MethodName)) ∈ lw_all := pt_all (List.mem_of_getElem? (i := 1094) rfl) (by decide +kernel)
set_option maxRecDepth 100000 in
theorem kw_1095 : (Jvm.Cond.code ({ cls := "java/util/ArrayList", name := "grow", desc := "(I)[Ljava/lang/Object;" } : Jvm.MethodName) prog_34_method_6_code (4 : Nat) (Option.some (Jvm.ClassFile.FieldType.array (Jvm.ClassFile.FieldType.object "java/lang/Object")))) ∈ lw_all := pt_all (List.mem_of_getElem? (i := 1095) rfl) (by decide +kernel)
set_option maxRecDepth 100000 in
theorem kw_1133 : (Jvm.Cond.arrayOver (Jvm.ClassFile.FieldType.object "java/lang/Object")) ∈ lw_all := pt_all (List.mem_of_getElem? (i := 1133) rfl) (by decide +kernel)
set_option maxRecDepth 100000 in
theorem kw_1137 : (Jvm.Cond.methodLink "java/util/ArrayList" (79 : Nat) ({ cls := "java/lang/Math", name := "max", desc := "(II)I" } : Jvm.MethodName)) ∈ lw_all := pt_all (List.mem_of_getElem? (i := 1137) rfl) (by decide +kernel)
set_option maxRecDepth 100000 in
theorem kw_1138 : (Jvm.Cond.classLink "java/util/ArrayList" (7 : Nat) "java/lang/Object") ∈ lw_all := pt_all (List.mem_of_getElem? (i := 1138) rfl) (by decide +kernel)
set_option maxRecDepth 100000 in
theorem kw_1139 : (Jvm.Cond.fieldLink "PuppetTheatreModel" (44 : Nat) "PuppetTheatreModel" "thrown" "I") ∈ lw_all := pt_all (List.mem_of_getElem? (i := 1139) rfl) (by decide +kernel)
set_option maxRecDepth 100000 in
theorem kw_1140 : (Jvm.Cond.fieldLink "PuppetTheatreModel" (10 : Nat) "PuppetTheatreModel" "chart" "LPuppetTheatreModel$Chart;") ∈ lw_all := pt_all (List.mem_of_getElem? (i := 1140) rfl) (by decide +kernel)
set_option maxRecDepth 100000 in
theorem kw_1141 : (Jvm.Cond.fieldLinkNest "PuppetTheatreModel$Run" (64 : Nat) "PuppetTheatreModel" "chart" "LPuppetTheatreModel$Chart;" "PuppetTheatreModel") ∈ lw_all := pt_all (List.mem_of_getElem? (i := 1141) rfl) (by decide +kernel)
set_option maxRecDepth 100000 in
theorem kw_1142 : (Jvm.Cond.fieldLink "PuppetTheatreModel" (21 : Nat) "PuppetTheatreModel" "run" "LPuppetTheatreModel$Run;") ∈ lw_all := pt_all (List.mem_of_getElem? (i := 1142) rfl) (by decide +kernel)
set_option maxRecDepth 100000 in
theorem kw_1143 : (Jvm.Cond.fieldLink "PuppetTheatreModel" (25 : Nat) "PuppetTheatreModel" "row" "[I") ∈ lw_all := pt_all (List.mem_of_getElem? (i := 1143) rfl) (by decide +kernel)
set_option maxRecDepth 100000 in
theorem kw_1144 : (Jvm.Cond.fieldLink "PuppetTheatreModel" (194 : Nat) "PuppetTheatreModel" "looked" "I") ∈ lw_all := pt_all (List.mem_of_getElem? (i := 1144) rfl) (by decide +kernel)
set_option maxRecDepth 100000 in
theorem kw_1159 : (Jvm.Cond.code ({ cls := "PuppetTheatreModel", name := "thrown", desc := "()I" } : Jvm.MethodName) prog_10_method_3_code (1 : Nat) (Option.some Jvm.ClassFile.FieldType.int)) ∈ lw_all := pt_all (List.mem_of_getElem? (i := 1159) rfl) (by decide +kernel)
set_option maxRecDepth 100000 in
theorem kw_1163 : (Jvm.Cond.code ({ cls := "PuppetTheatreModel", name := "addState", desc := "(II)I" } : Jvm.MethodName) prog_10_method_10_code (3 : Nat) (Option.some Jvm.ClassFile.FieldType.int)) ∈ lw_all := pt_all (List.mem_of_getElem? (i := 1163) rfl) (by decide +kernel)
set_option maxRecDepth 100000 in
theorem kw_1164 : (Jvm.Cond.methodLink "PuppetTheatreModel" (52 : Nat) ({ cls := "java/util/ArrayList", name := "size", desc := "()I" } : Jvm.MethodName)) ∈ lw_all := pt_all (List.mem_of_getElem? (i := 1164) rfl) (by decide +kernel)
set_option maxRecDepth 100000 in
theorem kw_1165 : (Jvm.Cond.instanceMethod ({ cls := "java/util/ArrayList", name := "size", desc := "()I" } : Jvm.MethodName)) ∈ lw_all := pt_all (List.mem_of_getElem? (i := 1165) rfl) (by decide +kernel)
set_option maxRecDepth 100000 in
theorem kw_1166 : (Jvm.Cond.selects "java/util/ArrayList" ({ cls := "java/util/ArrayList", name := "size", desc := "()I" } : Jvm.MethodName) ({ cls := "java/util/ArrayList", name := "size", desc := "()I" } : Jvm.MethodName)) ∈ lw_all := pt_all (List.mem_of_getElem? (i := 1166) rfl) (by decide +kernel)
set_option maxRecDepth 100000 in
theorem kw_1167 : (Jvm.Cond.code ({ cls := "java/util/ArrayList", name := "size", desc := "()I" } : Jvm.MethodName) prog_34_method_8_code (1 : Nat) (Option.some Jvm.ClassFile.FieldType.int)) ∈ lw_all := pt_all (List.mem_of_getElem? (i := 1167) rfl) (by decide +kernel)
set_option maxRecDepth 100000 in
theorem kw_1168 : (Jvm.Cond.methodLink "PuppetTheatreModel" (67 : Nat) ({ cls := "PuppetTheatreModel", name := "start", desc := "(ZI)Z" } : Jvm.MethodName)) ∈ lw_all := pt_all (List.mem_of_getElem? (i := 1168) rfl) (by decide +kernel)
set_option maxRecDepth 100000 in
theorem kw_1170 : (Jvm.Cond.instanceMethod ({ cls := "PuppetTheatreModel", name := "start", desc := "(ZI)Z" } : Jvm.MethodName)) ∈ lw_all := pt_all (List.mem_of_getElem? (i := 1170) rfl) (by decide +kernel)
set_option maxRecDepth 100000 in
theorem kw_1171 : (Jvm.Cond.code ({ cls := "PuppetTheatreModel", name := "start", desc := "(ZI)Z" } : Jvm.MethodName) prog_10_method_6_code (3 : Nat) (Option.some Jvm.ClassFile.FieldType.boolean)) ∈ lw_all := pt_all (List.mem_of_getElem? (i := 1171) rfl) (by decide +kernel)
set_option maxRecDepth 100000 in
theorem kw_1172 : (Jvm.Cond.methodLink "PuppetTheatreModel" (48 : Nat) ({ cls := "PuppetTheatreModel", name := "refuse", desc := "(ZI)Z" } : Jvm.MethodName)) ∈ lw_all := pt_all (List.mem_of_getElem? (i := 1172) rfl) (by decide +kernel)
set_option maxRecDepth 100000 in
theorem kw_1174 : (Jvm.Cond.instanceMethod ({ cls := "PuppetTheatreModel", name := "refuse", desc := "(ZI)Z" } : Jvm.MethodName)) ∈ lw_all := pt_all (List.mem_of_getElem? (i := 1174) rfl) (by decide +kernel)
set_option maxRecDepth 100000 in
theorem kw_1175 : (Jvm.Cond.code ({ cls := "PuppetTheatreModel", name := "refuse", desc := "(ZI)Z" } : Jvm.MethodName) prog_10_method_5_code (3 : Nat) (Option.some Jvm.ClassFile.FieldType.boolean)) ∈ lw_all := pt_all (List.mem_of_getElem? (i := 1175) rfl) (by decide +kernel)
set_option maxRecDepth 100000 in
theorem kw_1176 : (Jvm.Cond.methodLink "PuppetTheatreModel" (70 : Nat) ({ cls := "PuppetTheatreModel", name := "isNoState", desc := "(I)Z" } : Jvm.MethodName)) ∈ lw_all := pt_all (List.mem_of_getElem? (i := 1176) rfl) (by decide +kernel)
set_option maxRecDepth 100000 in
theorem kw_1178 : (Jvm.Cond.instanceMethod ({ cls := "PuppetTheatreModel", name := "isNoState", desc := "(I)Z" } : Jvm.MethodName)) ∈ lw_all := pt_all (List.mem_of_getElem? (i := 1178) rfl) (by decide +kernel)
set_option maxRecDepth 100000 in
theorem kw_1179 : (Jvm.Cond.code ({ cls := "PuppetTheatreModel", name := "isNoState", desc := "(I)Z" } : Jvm.MethodName) prog_10_method_8_code (2 : Nat) (Option.some Jvm.ClassFile.FieldType.boolean)) ∈ lw_all := pt_all (List.mem_of_getElem? (i := 1179) rfl) (by decide +kernel)
set_option maxRecDepth 100000 in
theorem kw_1180 : (Jvm.Cond.methodLink "PuppetTheatreModel" (56 : Nat) ({ cls := "PuppetTheatreModel", name := "isIn", desc := "(III)Z" } : Jvm.MethodName)) ∈ lw_all := pt_all (List.mem_of_getElem? (i := 1180) rfl) (by decide +kernel)
set_option maxRecDepth 100000 in
theorem kw_1181 : (Jvm.Cond.static ({ cls := "PuppetTheatreModel", name := "isIn", desc := "(III)Z" } : Jvm.MethodName)) ∈ lw_all := pt_all (List.mem_of_getElem? (i := 1181) rfl) (by decide +kernel)
set_option maxRecDepth 100000 in
theorem kw_1182 : (Jvm.Cond.code ({ cls := "PuppetTheatreModel", name := "isIn", desc := "(III)Z" } : Jvm.MethodName) prog_10_method_4_code (3 : Nat) (Option.some Jvm.ClassFile.FieldType.boolean)) ∈ lw_all := pt_all (List.mem_of_getElem? (i := 1182) rfl) (by decide +kernel)
set_option maxRecDepth 100000 in
theorem kw_1183 : (Jvm.Cond.methodLink "PuppetTheatreModel" (74 : Nat) ({ cls := "java/util/ArrayList", name := "get", desc := "(I)Ljava/lang/Object;" } : Jvm.MethodName)) ∈ lw_all := pt_all (List.mem_of_getElem? (i := 1183) rfl) (by decide +kernel)
set_option maxRecDepth 100000 in
theorem kw_1184 : (Jvm.Cond.instanceMethod ({ cls := "java/util/ArrayList", name := "get", desc := "(I)Ljava/lang/Object;" } : Jvm.MethodName)) ∈ lw_all := pt_all (List.mem_of_getElem? (i := 1184) rfl) (by decide +kernel)
set_option maxRecDepth 100000 in
theorem kw_1185 : (Jvm.Cond.selects "java/util/ArrayList" ({ cls := "java/util/ArrayList", name := "get", desc := "(I)Ljava/lang/Object;" } : Jvm.MethodName) ({ cls := "java/util/ArrayList", name := "get", desc := "(I)Ljava/lang/Object;" } : Jvm.MethodName)) ∈ lw_all := pt_all (List.mem_of_getElem? (i := 1185) rfl) (by decide +kernel)
set_option maxRecDepth 100000 in
theorem kw_1186 : (Jvm.Cond.code ({ cls := "java/util/ArrayList", name := "get", desc := "(I)Ljava/lang/Object;" } : Jvm.MethodName) prog_34_method_20_code (2 : Nat) (Option.some (Jvm.ClassFile.FieldType.object "java/lang/Object"))) ∈ lw_all := pt_all (List.mem_of_getElem? (i := 1186) rfl) (by decide +kernel)
set_option maxRecDepth 100000 in
theorem kw_1187 : (Jvm.Cond.methodLink "java/util/ArrayList" (118 : Nat) ({ cls := "java/util/Objects", name := "checkIndex", desc := "(II)I" } : Jvm.MethodName)) ∈ lw_all := pt_all (List.mem_of_getElem? (i := 1187) rfl) (by decide +kernel)
set_option maxRecDepth 100000 in
theorem kw_1188 : (Jvm.Cond.static ({ cls := "java/util/Objects", name := "checkIndex", desc := "(II)I" } : Jvm.MethodName)) ∈ lw_all := pt_all (List.mem_of_getElem? (i := 1188) rfl) (by decide +kernel)
set_option maxRecDepth 100000 in
theorem kw_1189 : (Jvm.Cond.code ({ cls := "java/util/Objects", name := "checkIndex", desc := "(II)I" } : Jvm.MethodName) prog_38_method_17_code (2 : Nat) (Option.some Jvm.ClassFile.FieldType.int)) ∈ lw_all := pt_all (List.mem_of_getElem? (i := 1189) rfl) (by decide +kernel)
set_option maxRecDepth 100000 in
theorem kw_1190 : (Jvm.Cond.methodLink "java/util/Objects" (105 : Nat) ({ cls := "jdk/internal/util/Preconditions", name := "checkIndex", desc := "(IILjava/util/function/BiFunction;)I" } : Jvm.MethodName)) ∈ lw_all := pt_all (List.mem_of_getElem? (i := 1190) rfl) (by decide +kernel)
set_option maxRecDepth 100000 in
theorem kw_1191 : (Jvm.Cond.static ({ cls := "jdk/internal/util/Preconditions", name := "checkIndex", desc := "(IILjava/util/function/BiFunction;)I" } : Jvm.MethodName)) ∈ lw_all := pt_all (List.mem_of_getElem? (i := 1191) rfl) (by decide +kernel)
set_option maxRecDepth 100000 in
theorem kw_1192 : (Jvm.Cond.code ({ cls := "jdk/internal/util/Preconditions", name := "checkIndex", desc := "(IILjava/util/function/BiFunction;)I" } : Jvm.MethodName) prog_42_method_11_code (3 : Nat) (Option.some Jvm.ClassFile.FieldType.int)) ∈ lw_all := pt_all (List.mem_of_getElem? (i := 1192) rfl) (by decide +kernel)
set_option maxRecDepth 100000 in
theorem kw_1193 : (Jvm.Cond.methodLink "java/util/ArrayList" (123 : Nat) ({ cls := "java/util/ArrayList", name := "elementData", desc := "(I)Ljava/lang/Object;" } : Jvm.MethodName)) ∈ lw_all := pt_all (List.mem_of_getElem? (i := 1193) rfl) (by decide +kernel)
set_option maxRecDepth 100000 in
theorem kw_1194 : (Jvm.Cond.instanceMethod ({ cls := "java/util/ArrayList", name := "elementData", desc := "(I)Ljava/lang/Object;" } : Jvm.MethodName)) ∈ lw_all := pt_all (List.mem_of_getElem? (i := 1194) rfl) (by decide +kernel)
set_option maxRecDepth 100000 in
theorem kw_1195 : (Jvm.Cond.selects "java/util/ArrayList" ({ cls := "java/util/ArrayList", name := "elementData", desc := "(I)Ljava/lang/Object;" } : Jvm.MethodName) ({ cls := "java/util/ArrayList", name := "elementData", desc := "(I)Ljava/lang/Object;" } : Jvm.MethodName)) ∈ lw_all := pt_all (List.mem_of_getElem? (i := 1195) rfl) (by decide +kernel)
set_option maxRecDepth 100000 in
theorem kw_1196 : (Jvm.Cond.code ({ cls := "java/util/ArrayList", name := "elementData", desc := "(I)Ljava/lang/Object;" } : Jvm.MethodName) prog_34_method_18_code (2 : Nat) (Option.some (Jvm.ClassFile.FieldType.object "java/lang/Object"))) ∈ lw_all := pt_all (List.mem_of_getElem? (i := 1196) rfl) (by decide +kernel)
set_option maxRecDepth 100000 in
theorem kw_1197 : (Jvm.Cond.methodLink "PuppetTheatreModel" (78 : Nat) ({ cls := "PuppetTheatreModel$State", name := "isOpen", desc := "()Z" } : Jvm.MethodName)) ∈ lw_all := pt_all (List.mem_of_getElem? (i := 1197) rfl) (by decide +kernel)
set_option maxRecDepth 100000 in
theorem kw_1198 : (Jvm.Cond.instanceMethod ({ cls := "PuppetTheatreModel$State", name := "isOpen", desc := "()Z" } : Jvm.MethodName)) ∈ lw_all := pt_all (List.mem_of_getElem? (i := 1198) rfl) (by decide +kernel)
set_option maxRecDepth 100000 in
theorem kw_1199 : (Jvm.Cond.selects "PuppetTheatreModel$State" ({ cls := "PuppetTheatreModel$State", name := "isOpen", desc := "()Z" } : Jvm.MethodName) ({ cls := "PuppetTheatreModel$State", name := "isOpen", desc := "()Z" } : Jvm.MethodName)) ∈ lw_all := pt_all (List.mem_of_getElem? (i := 1199) rfl) (by decide +kernel)
set_option maxRecDepth 100000 in
theorem kw_1200 : (Jvm.Cond.code ({ cls := "PuppetTheatreModel$State", name := "isOpen", desc := "()Z" } : Jvm.MethodName) prog_13_method_3_code (1 : Nat) (Option.some Jvm.ClassFile.FieldType.boolean)) ∈ lw_all := pt_all (List.mem_of_getElem? (i := 1200) rfl) (by decide +kernel)
set_option maxRecDepth 100000 in
theorem kw_1201 : (Jvm.Cond.methodLink "PuppetTheatreModel" (82 : Nat) ({ cls := "PuppetTheatreModel$Chart", name := "kind", desc := "(I)I" } : Jvm.MethodName)) ∈ lw_all := pt_all (List.mem_of_getElem? (i := 1201) rfl) (by decide +kernel)
set_option maxRecDepth 100000 in
theorem kw_1202 : (Jvm.Cond.instanceMethod ({ cls := "PuppetTheatreModel$Chart", name := "kind", desc := "(I)I" } : Jvm.MethodName)) ∈ lw_all := pt_all (List.mem_of_getElem? (i := 1202) rfl) (by decide +kernel)
set_option maxRecDepth 100000 in
theorem kw_1203 : (Jvm.Cond.selects "PuppetTheatreModel$Chart" ({ cls := "PuppetTheatreModel$Chart", name := "kind", desc := "(I)I" } : Jvm.MethodName) ({ cls := "PuppetTheatreModel$Chart", name := "kind", desc := "(I)I" } : Jvm.MethodName)) ∈ lw_all := pt_all (List.mem_of_getElem? (i := 1203) rfl) (by decide +kernel)
set_option maxRecDepth 100000 in
theorem kw_1204 : (Jvm.Cond.code ({ cls := "PuppetTheatreModel$Chart", name := "kind", desc := "(I)I" } : Jvm.MethodName) prog_11_method_3_code (2 : Nat) (Option.some Jvm.ClassFile.FieldType.int)) ∈ lw_all := pt_all (List.mem_of_getElem? (i := 1204) rfl) (by decide +kernel)
set_option maxRecDepth 100000 in
theorem kw_1205 : (Jvm.Cond.methodLink "PuppetTheatreModel$Chart" (21 : Nat) ({ cls := "java/util/ArrayList", name := "get", desc := "(I)Ljava/lang/Object;" } : Jvm.MethodName)) ∈ lw_all := pt_all (List.mem_of_getElem? (i := 1205) rfl) (by decide +kernel)
set_option maxRecDepth 100000 in
theorem kw_1206 : (Jvm.Cond.classLink "PuppetTheatreModel$Chart" (25 : Nat) "PuppetTheatreModel$State") ∈ lw_all := pt_all (List.mem_of_getElem? (i := 1206) rfl) (by decide +kernel)
set_option maxRecDepth 100000 in
theorem kw_1210 : (Jvm.Cond.code ({ cls := "PuppetTheatreModel", name := "setFirst", desc := "(II)I" } : Jvm.MethodName) prog_10_method_11_code (4 : Nat) (Option.some Jvm.ClassFile.FieldType.int)) ∈ lw_all := pt_all (List.mem_of_getElem? (i := 1210) rfl) (by decide +kernel)
set_option maxRecDepth 100000 in
theorem kw_1211 : (Jvm.Cond.methodLink "PuppetTheatreModel" (86 : Nat) ({ cls := "PuppetTheatreModel$Chart", name := "parts", desc := "(I)I" } : Jvm.MethodName)) ∈ lw_all := pt_all (List.mem_of_getElem? (i := 1211) rfl) (by decide +kernel)
set_option maxRecDepth 100000 in
theorem kw_1212 : (Jvm.Cond.instanceMethod ({ cls := "PuppetTheatreModel$Chart", name := "parts", desc := "(I)I" } : Jvm.MethodName)) ∈ lw_all := pt_all (List.mem_of_getElem? (i := 1212) rfl) (by decide +kernel)
set_option maxRecDepth 100000 in
theorem kw_1213 : (Jvm.Cond.selects "PuppetTheatreModel$Chart" ({ cls := "PuppetTheatreModel$Chart", name := "parts", desc := "(I)I" } : Jvm.MethodName) ({ cls := "PuppetTheatreModel$Chart", name := "parts", desc := "(I)I" } : Jvm.MethodName)) ∈ lw_all := pt_all (List.mem_of_getElem? (i := 1213) rfl) (by decide +kernel)
set_option maxRecDepth 100000 in
theorem kw_1214 : (Jvm.Cond.code ({ cls := "PuppetTheatreModel$Chart", name := "parts", desc := "(I)I" } : Jvm.MethodName) prog_11_method_4_code (4 : Nat) (Option.some Jvm.ClassFile.FieldType.int)) ∈ lw_all := pt_all (List.mem_of_getElem? (i := 1214) rfl) (by decide +kernel)
set_option maxRecDepth 100000 in
theorem kw_1215 : (Jvm.Cond.methodLink "PuppetTheatreModel$Chart" (34 : Nat) ({ cls := "java/util/ArrayList", name := "size", desc := "()I" } : Jvm.MethodName)) ∈ lw_all := pt_all (List.mem_of_getElem? (i := 1215) rfl) (by decide +kernel)
set_option maxRecDepth 100000 in
theorem kw_1216 : (Jvm.Cond.methodLink "PuppetTheatreModel$Chart" (38 : Nat) ({ cls := "PuppetTheatreModel$Chart", name := "parent", desc := "(I)I" } : Jvm.MethodName)) ∈ lw_all := pt_all (List.mem_of_getElem? (i := 1216) rfl) (by decide +kernel)
set_option maxRecDepth 100000 in
theorem kw_1217 : (Jvm.Cond.instanceMethod ({ cls := "PuppetTheatreModel$Chart", name := "parent", desc := "(I)I" } : Jvm.MethodName)) ∈ lw_all := pt_all (List.mem_of_getElem? (i := 1217) rfl) (by decide +kernel)
set_option maxRecDepth 100000 in
theorem kw_1218 : (Jvm.Cond.selects "PuppetTheatreModel$Chart" ({ cls := "PuppetTheatreModel$Chart", name := "parent", desc := "(I)I" } : Jvm.MethodName) ({ cls := "PuppetTheatreModel$Chart", name := "parent", desc := "(I)I" } : Jvm.MethodName)) ∈ lw_all := pt_all (List.mem_of_getElem? (i := 1218) rfl) (by decide +kernel)
set_option maxRecDepth 100000 in
theorem kw_1219 : (Jvm.Cond.code ({ cls := "PuppetTheatreModel$Chart", name := "parent", desc := "(I)I" } : Jvm.MethodName) prog_11_method_2_code (2 : Nat) (Option.some Jvm.ClassFile.FieldType.int)) ∈ lw_all := pt_all (List.mem_of_getElem? (i := 1219) rfl) (by decide +kernel)
set_option maxRecDepth 100000 in
theorem kw_1220 : (Jvm.Cond.methodLink "PuppetTheatreModel$Chart" (41 : Nat) ({ cls := "PuppetTheatreModel$State", name := "isMark", desc := "()Z" } : Jvm.MethodName)) ∈ lw_all := pt_all (List.mem_of_getElem? (i := 1220) rfl) (by decide +kernel)
set_option maxRecDepth 100000 in
theorem kw_1221 : (Jvm.Cond.instanceMethod ({ cls := "PuppetTheatreModel$State", name := "isMark", desc := "()Z" } : Jvm.MethodName)) ∈ lw_all := pt_all (List.mem_of_getElem? (i := 1221) rfl) (by decide +kernel)
set_option maxRecDepth 100000 in
theorem kw_1222 : (Jvm.Cond.selects "PuppetTheatreModel$State" ({ cls := "PuppetTheatreModel$State", name := "isMark", desc := "()Z" } : Jvm.MethodName) ({ cls := "PuppetTheatreModel$State", name := "isMark", desc := "()Z" } : Jvm.MethodName)) ∈ lw_all := pt_all (List.mem_of_getElem? (i := 1222) rfl) (by decide +kernel)
set_option maxRecDepth 100000 in
theorem kw_1223 : (Jvm.Cond.code ({ cls := "PuppetTheatreModel$State", name := "isMark", desc := "()Z" } : Jvm.MethodName) prog_13_method_2_code (1 : Nat) (Option.some Jvm.ClassFile.FieldType.boolean)) ∈ lw_all := pt_all (List.mem_of_getElem? (i := 1223) rfl) (by decide +kernel)
set_option maxRecDepth 100000 in
theorem kw_1224 : (Jvm.Cond.methodLink "PuppetTheatreModel" (89 : Nat) ({ cls := "PuppetTheatreModel", name := "has", desc := "(II)Z" } : Jvm.MethodName)) ∈ lw_all := pt_all (List.mem_of_getElem? (i := 1224) rfl) (by decide +kernel)
set_option maxRecDepth 100000 in
theorem kw_1225 : (Jvm.Cond.static ({ cls := "PuppetTheatreModel", name := "has", desc := "(II)Z" } : Jvm.MethodName)) ∈ lw_all := pt_all (List.mem_of_getElem? (i := 1225) rfl) (by decide +kernel)
set_option maxRecDepth 100000 in
theorem kw_1226 : (Jvm.Cond.code ({ cls := "PuppetTheatreModel", name := "has", desc := "(II)Z" } : Jvm.MethodName) prog_10_method_1_code (2 : Nat) (Option.some Jvm.ClassFile.FieldType.boolean)) ∈ lw_all := pt_all (List.mem_of_getElem? (i := 1226) rfl) (by decide +kernel)
set_option maxRecDepth 100000 in
theorem kw_1227 : (Jvm.Cond.methodLink "PuppetTheatreModel" (93 : Nat) ({ cls := "PuppetTheatreModel$Chart", name := "first", desc := "(I)I" } : Jvm.MethodName)) ∈ lw_all := pt_all (List.mem_of_getElem? (i := 1227) rfl) (by decide +kernel)
set_option maxRecDepth 100000 in
theorem kw_1228 : (Jvm.Cond.instanceMethod ({ cls := "PuppetTheatreModel$Chart", name := "first", desc := "(I)I" } : Jvm.MethodName)) ∈ lw_all := pt_all (List.mem_of_getElem? (i := 1228) rfl) (by decide +kernel)
set_option maxRecDepth 100000 in
theorem kw_1229 : (Jvm.Cond.selects "PuppetTheatreModel$Chart" ({ cls := "PuppetTheatreModel$Chart", name := "first", desc := "(I)I" } : Jvm.MethodName) ({ cls := "PuppetTheatreModel$Chart", name := "first", desc := "(I)I" } : Jvm.MethodName)) ∈ lw_all := pt_all (List.mem_of_getElem? (i := 1229) rfl) (by decide +kernel)
set_option maxRecDepth 100000 in
theorem kw_1230 : (Jvm.Cond.code ({ cls := "PuppetTheatreModel$Chart", name := "first", desc := "(I)I" } : Jvm.MethodName) prog_11_method_6_code (2 : Nat) (Option.some Jvm.ClassFile.FieldType.int)) ∈ lw_all := pt_all (List.mem_of_getElem? (i := 1230) rfl) (by decide +kernel)
set_option maxRecDepth 100000 in
theorem kw_1231 : (Jvm.Cond.methodLink "PuppetTheatreModel$Chart" (48 : Nat) ({ cls := "PuppetTheatreModel$Chart", name := "kind", desc := "(I)I" } : Jvm.MethodName)) ∈ lw_all := pt_all (List.mem_of_getElem? (i := 1231) rfl) (by decide +kernel)
set_option maxRecDepth 100000 in
theorem kw_1232 : (Jvm.Cond.methodLink "PuppetTheatreModel$Chart" (45 : Nat) ({ cls := "PuppetTheatreModel$Chart", name := "parts", desc := "(I)I" } : Jvm.MethodName)) ∈ lw_all := pt_all (List.mem_of_getElem? (i := 1232) rfl) (by decide +kernel)
set_option maxRecDepth 100000 in
theorem kw_1240 : (Jvm.Cond.code ({ cls := "PuppetTheatreModel", name := "setDoing", desc := "(IZIII)I" } : Jvm.MethodName) prog_10_method_13_code (9 : Nat) (Option.some Jvm.ClassFile.FieldType.int)) ∈ lw_all := pt_all (List.mem_of_getElem? (i := 1240) rfl) (by decide +kernel)
set_option maxRecDepth 100000 in
theorem kw_1241 : (Jvm.Cond.methodLink "PuppetTheatreModel" (98 : Nat) ({ cls := "PuppetTheatreModel$State", name := "isMark", desc := "()Z" } : Jvm.MethodName)) ∈ lw_all := pt_all (List.mem_of_getElem? (i := 1241) rfl) (by decide +kernel)
set_option maxRecDepth 100000 in
theorem kw_1242 : (Jvm.Cond.methodLink "PuppetTheatreModel" (101 : Nat) ({ cls := "PuppetTheatreModel", name := "isNoAction", desc := "(III)Z" } : Jvm.MethodName)) ∈ lw_all := pt_all (List.mem_of_getElem? (i := 1242) rfl) (by decide +kernel)
set_option maxRecDepth 100000 in
theorem kw_1243 : (Jvm.Cond.static ({ cls := "PuppetTheatreModel", name := "isNoAction", desc := "(III)Z" } : Jvm.MethodName)) ∈ lw_all := pt_all (List.mem_of_getElem? (i := 1243) rfl) (by decide +kernel)
set_option maxRecDepth 100000 in
theorem kw_1244 : (Jvm.Cond.code ({ cls := "PuppetTheatreModel", name := "isNoAction", desc := "(III)Z" } : Jvm.MethodName) prog_10_method_12_code (3 : Nat) (Option.some Jvm.ClassFile.FieldType.boolean)) ∈ lw_all := pt_all (List.mem_of_getElem? (i := 1244) rfl) (by decide +kernel)
set_option maxRecDepth 100000 in
theorem kw_1248 : (Jvm.Cond.code ({ cls := "PuppetTheatreModel", name := "addTransition", desc := "(IIII)I" } : Jvm.MethodName) prog_10_method_14_code (6 : Nat) (Option.some Jvm.ClassFile.FieldType.int)) ∈ lw_all := pt_all (List.mem_of_getElem? (i := 1248) rfl) (by decide +kernel)
set_option maxRecDepth 100000 in
theorem kw_1249 : (Jvm.Cond.classLink "PuppetTheatreModel" (110 : Nat) "PuppetTheatreModel$Transition") ∈ lw_all := pt_all (List.mem_of_getElem? (i := 1249) rfl) (by decide +kernel)
set_option maxRecDepth 100000 in
theorem kw_1250 : (Jvm.Cond.instantiable "PuppetTheatreModel$Transition" (6 : Nat)) ∈ lw_all := pt_all (List.mem_of_getElem? (i := 1250) rfl) (by decide +kernel)
set_option maxRecDepth 100000 in
theorem kw_1251 : (Jvm.Cond.methodLink "PuppetTheatreModel" (112 : Nat) ({ cls := "PuppetTheatreModel$Transition", name := "<init>", desc := "(IIII)V" } : Jvm.MethodName)) ∈ lw_all := pt_all (List.mem_of_getElem? (i := 1251) rfl) (by decide +kernel)
set_option maxRecDepth 100000 in
theorem kw_1252 : (Jvm.Cond.instanceMethod ({ cls := "PuppetTheatreModel$Transition", name := "<init>", desc := "(IIII)V" } : Jvm.MethodName)) ∈ lw_all := pt_all (List.mem_of_getElem? (i := 1252) rfl) (by decide +kernel)
set_option maxRecDepth 100000 in
theorem kw_1253 : (Jvm.Cond.code ({ cls := "PuppetTheatreModel$Transition", name := "<init>", desc := "(IIII)V" } : Jvm.MethodName) prog_14_method_1_code (5 : Nat) (Option.none : Option Jvm.ClassFile.FieldType)) ∈ lw_all := pt_all (List.mem_of_getElem? (i := 1253) rfl) (by decide +kernel)
set_option maxRecDepth 100000 in
theorem kw_1254 : (Jvm.Cond.methodLink "PuppetTheatreModel$Transition" (1 : Nat) ({ cls := "java/lang/Object", name := "<init>", desc := "()V" } : Jvm.MethodName)) ∈ lw_all := pt_all (List.mem_of_getElem? (i := 1254) rfl) (by decide +kernel)
set_option maxRecDepth 100000 in
theorem kw_1255 : (Jvm.Cond.fieldLinkNest "PuppetTheatreModel$Transition" (7 : Nat) "PuppetTheatreModel" "NOTHING" "[I" "PuppetTheatreModel") ∈ lw_all := pt_all (List.mem_of_getElem? (i := 1255) rfl) (by decide +kernel)
set_option maxRecDepth 100000 in
theorem kw_1256 : (Jvm.Cond.fieldLink "PuppetTheatreModel$Transition" (21 : Nat) "PuppetTheatreModel$Transition" "from" "I") ∈ lw_all := pt_all (List.mem_of_getElem? (i := 1256) rfl) (by decide +kernel)
set_option maxRecDepth 100000 in
theorem kw_1259 : (Jvm.Cond.fieldLink "PuppetTheatreModel$Transition" (25 : Nat) "PuppetTheatreModel$Transition" "trigger" "I") ∈ lw_all := pt_all (List.mem_of_getElem? (i := 1259) rfl) (by decide +kernel)
set_option maxRecDepth 100000 in
theorem kw_1261 : (Jvm.Cond.fieldLink "PuppetTheatreModel$Transition" (28 : Nat) "PuppetTheatreModel$Transition" "n" "I") ∈ lw_all := pt_all (List.mem_of_getElem? (i := 1261) rfl) (by decide +kernel)
set_option maxRecDepth 100000 in
theorem kw_1263 : (Jvm.Cond.fieldLink "PuppetTheatreModel$Transition" (31 : Nat) "PuppetTheatreModel$Transition" "to" "I") ∈ lw_all := pt_all (List.mem_of_getElem? (i := 1263) rfl) (by decide +kernel)
set_option maxRecDepth 100000 in
theorem kw_1266 : (Jvm.Cond.fieldLink "PuppetTheatreModel$Transition" (13 : Nat) "PuppetTheatreModel$Transition" "guard" "[I") ∈ lw_all := pt_all (List.mem_of_getElem? (i := 1266) rfl) (by decide +kernel)
set_option maxRecDepth 100000 in
theorem kw_1269 : (Jvm.Cond.fieldLink "PuppetTheatreModel$Transition" (18 : Nat) "PuppetTheatreModel$Transition" "action" "[I") ∈ lw_all := pt_all (List.mem_of_getElem? (i := 1269) rfl) (by decide +kernel)
set_option maxRecDepth 100000 in
theorem kw_1288 : (Jvm.Cond.code ({ cls := "PuppetTheatreModel", name := "setGuard", desc := "(IIII)I" } : Jvm.MethodName) prog_10_method_15_code (7 : Nat) (Option.some Jvm.ClassFile.FieldType.int)) ∈ lw_all := pt_all (List.mem_of_getElem? (i := 1288) rfl) (by decide +kernel)
set_option maxRecDepth 100000 in
theorem kw_1289 : (Jvm.Cond.methodLink "PuppetTheatreModel" (115 : Nat) ({ cls := "PuppetTheatreModel", name := "isNoTransition", desc := "(I)Z" } : Jvm.MethodName)) ∈ lw_all := pt_all (List.mem_of_getElem? (i := 1289) rfl) (by decide +kernel)
set_option maxRecDepth 100000 in
theorem kw_1291 : (Jvm.Cond.instanceMethod ({ cls := "PuppetTheatreModel", name := "isNoTransition", desc := "(I)Z" } : Jvm.MethodName)) ∈ lw_all := pt_all (List.mem_of_getElem? (i := 1291) rfl) (by decide +kernel)
set_option maxRecDepth 100000 in
theorem kw_1292 : (Jvm.Cond.code ({ cls := "PuppetTheatreModel", name := "isNoTransition", desc := "(I)Z" } : Jvm.MethodName) prog_10_method_9_code (2 : Nat) (Option.some Jvm.ClassFile.FieldType.boolean)) ∈ lw_all := pt_all (List.mem_of_getElem? (i := 1292) rfl) (by decide +kernel)
set_option maxRecDepth 100000 in
theorem kw_1296 : (Jvm.Cond.code ({ cls := "PuppetTheatreModel", name := "setAction", desc := "(IIII)I" } : Jvm.MethodName) prog_10_method_16_code (7 : Nat) (Option.some Jvm.ClassFile.FieldType.int)) ∈ lw_all := pt_all (List.mem_of_getElem? (i := 1296) rfl) (by decide +kernel)
set_option maxRecDepth 100000 in
theorem kw_1300 : (Jvm.Cond.code ({ cls := "PuppetTheatreModel", name := "start", desc := "()I" } : Jvm.MethodName) prog_10_method_17_code (1 : Nat) (Option.some Jvm.ClassFile.FieldType.int)) ∈ lw_all := pt_all (List.mem_of_getElem? (i := 1300) rfl) (by decide +kernel)
set_option maxRecDepth 100000 in
theorem kw_1301 : (Jvm.Cond.methodLink "PuppetTheatreModel" (124 : Nat) ({ cls := "PuppetTheatreModel$Run", name := "start", desc := "()I" } : Jvm.MethodName)) ∈ lw_all := pt_all (List.mem_of_getElem? (i := 1301) rfl) (by decide +kernel)
set_option maxRecDepth 100000 in
theorem kw_1302 : (Jvm.Cond.instanceMethod ({ cls := "PuppetTheatreModel$Run", name := "start", desc := "()I" } : Jvm.MethodName)) ∈ lw_all := pt_all (List.mem_of_getElem? (i := 1302) rfl) (by decide +kernel)
set_option maxRecDepth 100000 in
theorem kw_1303 : (Jvm.Cond.selects "PuppetTheatreModel$Run" ({ cls := "PuppetTheatreModel$Run", name := "start", desc := "()I" } : Jvm.MethodName) ({ cls := "PuppetTheatreModel$Run", name := "start", desc := "()I" } : Jvm.MethodName)) ∈ lw_all := pt_all (List.mem_of_getElem? (i := 1303) rfl) (by decide +kernel)
set_option maxRecDepth 100000 in
theorem kw_1304 : (Jvm.Cond.code ({ cls := "PuppetTheatreModel$Run", name := "start", desc := "()I" } : Jvm.MethodName) prog_12_method_17_code (2 : Nat) (Option.some Jvm.ClassFile.FieldType.int)) ∈ lw_all := pt_all (List.mem_of_getElem? (i := 1304) rfl) (by decide +kernel)
set_option maxRecDepth 100000 in
theorem kw_1305 : (Jvm.Cond.methodLink "PuppetTheatreModel$Run" (226 : Nat) ({ cls := "java/util/ArrayList", name := "clear", desc := "()V" } : Jvm.MethodName)) ∈ lw_all := pt_all (List.mem_of_getElem? (i := 1305) rfl) (by decide +kernel)
set_option maxRecDepth 100000 in
theorem kw_1306 : (Jvm.Cond.instanceMethod ({ cls := "java/util/ArrayList", name := "clear", desc := "()V" } : Jvm.MethodName)) ∈ lw_all := pt_all (List.mem_of_getElem? (i := 1306) rfl) (by decide +kernel)
set_option maxRecDepth 100000 in
theorem kw_1307 : (Jvm.Cond.selects "java/util/ArrayList" ({ cls := "java/util/ArrayList", name := "clear", desc := "()V" } : Jvm.MethodName) ({ cls := "java/util/ArrayList", name := "clear", desc := "()V" } : Jvm.MethodName)) ∈ lw_all := pt_all (List.mem_of_getElem? (i := 1307) rfl) (by decide +kernel)
set_option maxRecDepth 100000 in
theorem kw_1308 : (Jvm.Cond.code ({ cls := "java/util/ArrayList", name := "clear", desc := "()V" } : Jvm.MethodName) prog_34_method_40_code (4 : Nat) (Option.none : Option Jvm.ClassFile.FieldType)) ∈ lw_all := pt_all (List.mem_of_getElem? (i := 1308) rfl) (by decide +kernel)
set_option maxRecDepth 100000 in
theorem kw_1309 : (Jvm.Cond.methodLink "PuppetTheatreModel$Run" (214 : Nat) ({ cls := "PuppetTheatreModel$Chart", name := "filled", desc := "(I)I" } : Jvm.MethodName)) ∈ lw_all := pt_all (List.mem_of_getElem? (i := 1309) rfl) (by decide +kernel)
set_option maxRecDepth 100000 in
theorem kw_1310 : (Jvm.Cond.instanceMethod ({ cls := "PuppetTheatreModel$Chart", name := "filled", desc := "(I)I" } : Jvm.MethodName)) ∈ lw_all := pt_all (List.mem_of_getElem? (i := 1310) rfl) (by decide +kernel)
set_option maxRecDepth 100000 in
theorem kw_1311 : (Jvm.Cond.selects "PuppetTheatreModel$Chart" ({ cls := "PuppetTheatreModel$Chart", name := "filled", desc := "(I)I" } : Jvm.MethodName) ({ cls := "PuppetTheatreModel$Chart", name := "filled", desc := "(I)I" } : Jvm.MethodName)) ∈ lw_all := pt_all (List.mem_of_getElem? (i := 1311) rfl) (by decide +kernel)
set_option maxRecDepth 100000 in
theorem kw_1312 : (Jvm.Cond.code ({ cls := "PuppetTheatreModel$Chart", name := "filled", desc := "(I)I" } : Jvm.MethodName) prog_11_method_10_code (5 : Nat) (Option.some Jvm.ClassFile.FieldType.int)) ∈ lw_all := pt_all (List.mem_of_getElem? (i := 1312) rfl) (by decide +kernel)
set_option maxRecDepth 100000 in
theorem kw_1313 : (Jvm.Cond.methodLink "PuppetTheatreModel$Chart" (70 : Nat) ({ cls := "PuppetTheatreModel$Chart", name := "first", desc := "(I)I" } : Jvm.MethodName)) ∈ lw_all := pt_all (List.mem_of_getElem? (i := 1313) rfl) (by decide +kernel)
set_option maxRecDepth 100000 in
theorem kw_1315 : (Jvm.Cond.methodLinkNest "PuppetTheatreModel$Chart" (75 : Nat) ({ cls := "PuppetTheatreModel", name := "has", desc := "(II)Z" } : Jvm.MethodName) "PuppetTheatreModel") ∈ lw_all := pt_all (List.mem_of_getElem? (i := 1315) rfl) (by decide +kernel)
set_option maxRecDepth 100000 in
theorem kw_1316 : (Jvm.Cond.methodLink "PuppetTheatreModel$Run" (205 : Nat) ({ cls := "PuppetTheatreModel$Run", name := "enter", desc := "(I)V" } : Jvm.MethodName)) ∈ lw_all := pt_all (List.mem_of_getElem? (i := 1316) rfl) (by decide +kernel)
set_option maxRecDepth 100000 in
theorem kw_1318 : (Jvm.Cond.instanceMethod ({ cls := "PuppetTheatreModel$Run", name := "enter", desc := "(I)V" } : Jvm.MethodName)) ∈ lw_all := pt_all (List.mem_of_getElem? (i := 1318) rfl) (by decide +kernel)
set_option maxRecDepth 100000 in
theorem kw_1319 : (Jvm.Cond.code ({ cls := "PuppetTheatreModel$Run", name := "enter", desc := "(I)V" } : Jvm.MethodName) prog_12_method_7_code (3 : Nat) (Option.none : Option Jvm.ClassFile.FieldType)) ∈ lw_all := pt_all (List.mem_of_getElem? (i := 1319) rfl) (by decide +kernel)
set_option maxRecDepth 100000 in
theorem kw_1320 : (Jvm.Cond.methodLink "PuppetTheatreModel$Run" (73 : Nat) ({ cls := "java/util/ArrayList", name := "size", desc := "()I" } : Jvm.MethodName)) ∈ lw_all := pt_all (List.mem_of_getElem? (i := 1320) rfl) (by decide +kernel)
set_option maxRecDepth 100000 in
theorem kw_1321 : (Jvm.Cond.methodLinkNest "PuppetTheatreModel$Run" (77 : Nat) ({ cls := "PuppetTheatreModel", name := "has", desc := "(II)Z" } : Jvm.MethodName) "PuppetTheatreModel") ∈ lw_all := pt_all (List.mem_of_getElem? (i := 1321) rfl) (by decide +kernel)
set_option maxRecDepth 100000 in
theorem kw_1322 : (Jvm.Cond.methodLink "PuppetTheatreModel$Run" (114 : Nat) ({ cls := "java/util/ArrayList", name := "get", desc := "(I)Ljava/lang/Object;" } : Jvm.MethodName)) ∈ lw_all := pt_all (List.mem_of_getElem? (i := 1322) rfl) (by decide +kernel)
set_option maxRecDepth 100000 in
theorem kw_1323 : (Jvm.Cond.classLink "PuppetTheatreModel$Run" (118 : Nat) "PuppetTheatreModel$State") ∈ lw_all := pt_all (List.mem_of_getElem? (i := 1323) rfl) (by decide +kernel)
set_option maxRecDepth 100000 in
theorem kw_1324 : (Jvm.Cond.methodLink "PuppetTheatreModel$Run" (123 : Nat) ({ cls := "PuppetTheatreModel$Run", name := "act", desc := "([I)V" } : Jvm.MethodName)) ∈ lw_all := pt_all (List.mem_of_getElem? (i := 1324) rfl) (by decide +kernel)
set_option maxRecDepth 100000 in
theorem kw_1326 : (Jvm.Cond.instanceMethod ({ cls := "PuppetTheatreModel$Run", name := "act", desc := "([I)V" } : Jvm.MethodName)) ∈ lw_all := pt_all (List.mem_of_getElem? (i := 1326) rfl) (by decide +kernel)
set_option maxRecDepth 100000 in
theorem kw_1327 : (Jvm.Cond.code ({ cls := "PuppetTheatreModel$Run", name := "act", desc := "([I)V" } : Jvm.MethodName) prog_12_method_6_code (2 : Nat) (Option.none : Option Jvm.ClassFile.FieldType)) ∈ lw_all := pt_all (List.mem_of_getElem? (i := 1327) rfl) (by decide +kernel)
set_option maxRecDepth 100000 in
theorem kw_1328 : (Jvm.Cond.methodLink "PuppetTheatreModel$Run" (81 : Nat) ({ cls := "java/lang/Math", name := "min", desc := "(II)I" } : Jvm.MethodName)) ∈ lw_all := pt_all (List.mem_of_getElem? (i := 1328) rfl) (by decide +kernel)
set_option maxRecDepth 100000 in
theorem kw_1329 : (Jvm.Cond.methodLink "PuppetTheatreModel$Run" (101 : Nat) ({ cls := "java/lang/Math", name := "max", desc := "(II)I" } : Jvm.MethodName)) ∈ lw_all := pt_all (List.mem_of_getElem? (i := 1329) rfl) (by decide +kernel)
set_option maxRecDepth 100000 in
theorem kw_1351 : (Jvm.Cond.methodLink "PuppetTheatreModel$Run" (229 : Nat) ({ cls := "PuppetTheatreModel$Run", name := "settle", desc := "(I)I" } : Jvm.MethodName)) ∈ lw_all := pt_all (List.mem_of_getElem? (i := 1351) rfl) (by decide +kernel)
set_option maxRecDepth 100000 in
theorem kw_1353 : (Jvm.Cond.instanceMethod ({ cls := "PuppetTheatreModel$Run", name := "settle", desc := "(I)I" } : Jvm.MethodName)) ∈ lw_all := pt_all (List.mem_of_getElem? (i := 1353) rfl) (by decide +kernel)
set_option maxRecDepth 100000 in
theorem kw_1354 : (Jvm.Cond.code ({ cls := "PuppetTheatreModel$Run", name := "settle", desc := "(I)I" } : Jvm.MethodName) prog_12_method_16_code (5 : Nat) (Option.some Jvm.ClassFile.FieldType.int)) ∈ lw_all := pt_all (List.mem_of_getElem? (i := 1354) rfl) (by decide +kernel)
set_option maxRecDepth 100000 in
theorem kw_1355 : (Jvm.Cond.methodLink "PuppetTheatreModel$Run" (217 : Nat) ({ cls := "PuppetTheatreModel$Run", name := "isOver", desc := "()Z" } : Jvm.MethodName)) ∈ lw_all := pt_all (List.mem_of_getElem? (i := 1355) rfl) (by decide +kernel)
set_option maxRecDepth 100000 in
theorem kw_1356 : (Jvm.Cond.instanceMethod ({ cls := "PuppetTheatreModel$Run", name := "isOver", desc := "()Z" } : Jvm.MethodName)) ∈ lw_all := pt_all (List.mem_of_getElem? (i := 1356) rfl) (by decide +kernel)
set_option maxRecDepth 100000 in
theorem kw_1357 : (Jvm.Cond.selects "PuppetTheatreModel$Run" ({ cls := "PuppetTheatreModel$Run", name := "isOver", desc := "()Z" } : Jvm.MethodName) ({ cls := "PuppetTheatreModel$Run", name := "isOver", desc := "()Z" } : Jvm.MethodName)) ∈ lw_all := pt_all (List.mem_of_getElem? (i := 1357) rfl) (by decide +kernel)
set_option maxRecDepth 100000 in
theorem kw_1358 : (Jvm.Cond.code ({ cls := "PuppetTheatreModel$Run", name := "isOver", desc := "()Z" } : Jvm.MethodName) prog_12_method_4_code (2 : Nat) (Option.some Jvm.ClassFile.FieldType.boolean)) ∈ lw_all := pt_all (List.mem_of_getElem? (i := 1358) rfl) (by decide +kernel)
set_option maxRecDepth 100000 in
theorem kw_1359 : (Jvm.Cond.methodLink "PuppetTheatreModel$Run" (87 : Nat) ({ cls := "PuppetTheatreModel$Chart", name := "kind", desc := "(I)I" } : Jvm.MethodName)) ∈ lw_all := pt_all (List.mem_of_getElem? (i := 1359) rfl) (by decide +kernel)
set_option maxRecDepth 100000 in
theorem kw_1360 : (Jvm.Cond.methodLink "PuppetTheatreModel$Run" (91 : Nat) ({ cls := "PuppetTheatreModel$Chart", name := "parent", desc := "(I)I" } : Jvm.MethodName)) ∈ lw_all := pt_all (List.mem_of_getElem? (i := 1360) rfl) (by decide +kernel)
set_option maxRecDepth 100000 in
theorem kw_1361 : (Jvm.Cond.methodLink "PuppetTheatreModel$Run" (220 : Nat) ({ cls := "PuppetTheatreModel$Run", name := "step", desc := "(II)I" } : Jvm.MethodName)) ∈ lw_all := pt_all (List.mem_of_getElem? (i := 1361) rfl) (by decide +kernel)
set_option maxRecDepth 100000 in
theorem kw_1363 : (Jvm.Cond.instanceMethod ({ cls := "PuppetTheatreModel$Run", name := "step", desc := "(II)I" } : Jvm.MethodName)) ∈ lw_all := pt_all (List.mem_of_getElem? (i := 1363) rfl) (by decide +kernel)
set_option maxRecDepth 100000 in
theorem kw_1364 : (Jvm.Cond.code ({ cls := "PuppetTheatreModel$Run", name := "step", desc := "(II)I" } : Jvm.MethodName) prog_12_method_13_code (7 : Nat) (Option.some Jvm.ClassFile.FieldType.int)) ∈ lw_all := pt_all (List.mem_of_getElem? (i := 1364) rfl) (by decide +kernel)
set_option maxRecDepth 100000 in
theorem kw_1365 : (Jvm.Cond.methodLink "PuppetTheatreModel$Run" (181 : Nat) ({ cls := "PuppetTheatreModel$Run", name := "taken", desc := "(II)Ljava/util/ArrayList;" } : Jvm.MethodName)) ∈ lw_all := pt_all (List.mem_of_getElem? (i := 1365) rfl) (by decide +kernel)
set_option maxRecDepth 100000 in
theorem kw_1367 : (Jvm.Cond.instanceMethod ({ cls := "PuppetTheatreModel$Run", name := "taken", desc := "(II)Ljava/util/ArrayList;" } : Jvm.MethodName)) ∈ lw_all := pt_all (List.mem_of_getElem? (i := 1367) rfl) (by decide +kernel)
set_option maxRecDepth 100000 in
theorem kw_1368 : (Jvm.Cond.code ({ cls := "PuppetTheatreModel$Run", name := "taken", desc := "(II)Ljava/util/ArrayList;" } : Jvm.MethodName) prog_12_method_12_code (9 : Nat) (Option.some (Jvm.ClassFile.FieldType.object "java/util/ArrayList"))) ∈ lw_all := pt_all (List.mem_of_getElem? (i := 1368) rfl) (by decide +kernel)
set_option maxRecDepth 100000 in
theorem kw_1369 : (Jvm.Cond.methodLink "PuppetTheatreModel$Run" (162 : Nat) ({ cls := "PuppetTheatreModel$Chart", name := "isLeaf", desc := "(I)Z" } : Jvm.MethodName)) ∈ lw_all := pt_all (List.mem_of_getElem? (i := 1369) rfl) (by decide +kernel)
set_option maxRecDepth 100000 in
theorem kw_1370 : (Jvm.Cond.instanceMethod ({ cls := "PuppetTheatreModel$Chart", name := "isLeaf", desc := "(I)Z" } : Jvm.MethodName)) ∈ lw_all := pt_all (List.mem_of_getElem? (i := 1370) rfl) (by decide +kernel)
set_option maxRecDepth 100000 in
theorem kw_1371 : (Jvm.Cond.selects "PuppetTheatreModel$Chart" ({ cls := "PuppetTheatreModel$Chart", name := "isLeaf", desc := "(I)Z" } : Jvm.MethodName) ({ cls := "PuppetTheatreModel$Chart", name := "isLeaf", desc := "(I)Z" } : Jvm.MethodName)) ∈ lw_all := pt_all (List.mem_of_getElem? (i := 1371) rfl) (by decide +kernel)
set_option maxRecDepth 100000 in
theorem kw_1372 : (Jvm.Cond.code ({ cls := "PuppetTheatreModel$Chart", name := "isLeaf", desc := "(I)Z" } : Jvm.MethodName) prog_11_method_5_code (2 : Nat) (Option.some Jvm.ClassFile.FieldType.boolean)) ∈ lw_all := pt_all (List.mem_of_getElem? (i := 1372) rfl) (by decide +kernel)
set_option maxRecDepth 100000 in
theorem kw_1373 : (Jvm.Cond.methodLink "PuppetTheatreModel$Run" (165 : Nat) ({ cls := "PuppetTheatreModel$Run", name := "chosen", desc := "(III)I" } : Jvm.MethodName)) ∈ lw_all := pt_all (List.mem_of_getElem? (i := 1373) rfl) (by decide +kernel)
set_option maxRecDepth 100000 in
theorem kw_1375 : (Jvm.Cond.instanceMethod ({ cls := "PuppetTheatreModel$Run", name := "chosen", desc := "(III)I" } : Jvm.MethodName)) ∈ lw_all := pt_all (List.mem_of_getElem? (i := 1375) rfl) (by decide +kernel)
set_option maxRecDepth 100000 in
theorem kw_1376 : (Jvm.Cond.code ({ cls := "PuppetTheatreModel$Run", name := "chosen", desc := "(III)I" } : Jvm.MethodName) prog_12_method_10_code (6 : Nat) (Option.some Jvm.ClassFile.FieldType.int)) ∈ lw_all := pt_all (List.mem_of_getElem? (i := 1376) rfl) (by decide +kernel)
set_option maxRecDepth 100000 in
theorem kw_1387 : (Jvm.Cond.instanceMethod ({ cls := "PuppetTheatreModel$Run", name := "isEnded", desc := "(I)Z" } : Jvm.MethodName)) ∈ lw_all := pt_all (List.mem_of_getElem? (i := 1387) rfl) (by decide +kernel)
set_option maxRecDepth 100000 in
theorem kw_1388 : (Jvm.Cond.selects "PuppetTheatreModel$Run" ({ cls := "PuppetTheatreModel$Run", name := "isEnded", desc := "(I)Z" } : Jvm.MethodName) ({ cls := "PuppetTheatreModel$Run", name := "isEnded", desc := "(I)Z" } : Jvm.MethodName)) ∈ lw_all := pt_all (List.mem_of_getElem? (i := 1388) rfl) (by decide +kernel)
set_option maxRecDepth 100000 in
theorem kw_1389 : (Jvm.Cond.code ({ cls := "PuppetTheatreModel$Run", name := "isEnded", desc := "(I)Z" } : Jvm.MethodName) prog_12_method_5_code (6 : Nat) (Option.some Jvm.ClassFile.FieldType.boolean)) ∈ lw_all := pt_all (List.mem_of_getElem? (i := 1389) rfl) (by decide +kernel)
set_option maxRecDepth 100000 in
theorem kw_1390 : (Jvm.Cond.methodLink "PuppetTheatreModel$Run" (94 : Nat) ({ cls := "PuppetTheatreModel$Chart", name := "parts", desc := "(I)I" } : Jvm.MethodName)) ∈ lw_all := pt_all (List.mem_of_getElem? (i := 1390) rfl) (by decide +kernel)
set_option maxRecDepth 100000 in
theorem kw_1402 : (Jvm.Cond.code ({ cls := "PuppetTheatreModel$Chart", name := "isBeneath", desc := "(II)Z" } : Jvm.MethodName) prog_11_method_7_code (4 : Nat) (Option.some Jvm.ClassFile.FieldType.boolean)) ∈ lw_all := pt_all (List.mem_of_getElem? (i := 1402) rfl) (by decide +kernel)
set_option maxRecDepth 100000 in
theorem kw_1422 : (Jvm.Cond.methodLink "PuppetTheatreModel$Run" (185 : Nat) ({ cls := "PuppetTheatreModel$State", name := "isMark", desc := "()Z" } : Jvm.MethodName)) ∈ lw_all := pt_all (List.mem_of_getElem? (i := 1422) rfl) (by decide +kernel)
set_option maxRecDepth 100000 in
theorem kw_1436 : (Jvm.Cond.methodLink "PuppetTheatreModel$Run" (223 : Nat) ({ cls := "java/util/ArrayList", name := "isEmpty", desc := "()Z" } : Jvm.MethodName)) ∈ lw_all := pt_all (List.mem_of_getElem? (i := 1436) rfl) (by decide +kernel)
set_option maxRecDepth 100000 in
theorem kw_1437 : (Jvm.Cond.instanceMethod ({ cls := "java/util/ArrayList", name := "isEmpty", desc := "()Z" } : Jvm.MethodName)) ∈ lw_all := pt_all (List.mem_of_getElem? (i := 1437) rfl) (by decide +kernel)
set_option maxRecDepth 100000 in
theorem kw_1438 : (Jvm.Cond.selects "java/util/ArrayList" ({ cls := "java/util/ArrayList", name := "isEmpty", desc := "()Z" } : Jvm.MethodName) ({ cls := "java/util/ArrayList", name := "isEmpty", desc := "()Z" } : Jvm.MethodName)) ∈ lw_all := pt_all (List.mem_of_getElem? (i := 1438) rfl) (by decide +kernel)
set_option maxRecDepth 100000 in
theorem kw_1439 : (Jvm.Cond.code ({ cls := "java/util/ArrayList", name := "isEmpty", desc := "()Z" } : Jvm.MethodName) prog_34_method_9_code (1 : Nat) (Option.some Jvm.ClassFile.FieldType.boolean)) ∈ lw_all := pt_all (List.mem_of_getElem? (i := 1439) rfl) (by decide +kernel)
set_option maxRecDepth 100000 in
theorem kw_1440 : (Jvm.Cond.arrayClass Jvm.ClassFile.FieldType.boolean) ∈ lw_all := pt_all (List.mem_of_getElem? (i := 1440) rfl) (by decide +kernel)
set_option maxRecDepth 100000 in
theorem kw_1444 : (Jvm.Cond.code ({ cls := "PuppetTheatreModel", name := "stop", desc := "()I" } : Jvm.MethodName) prog_10_method_18_code (2 : Nat) (Option.some Jvm.ClassFile.FieldType.int)) ∈ lw_all := pt_all (List.mem_of_getElem? (i := 1444) rfl) (by decide +kernel)
set_option maxRecDepth 100000 in
theorem kw_1445 : (Jvm.Cond.methodLink "PuppetTheatreModel" (129 : Nat) ({ cls := "java/lang/Integer", name := "bitCount", desc := "(I)I" } : Jvm.MethodName)) ∈ lw_all := pt_all (List.mem_of_getElem? (i := 1445) rfl) (by decide +kernel)
set_option maxRecDepth 100000 in
theorem kw_1449 : (Jvm.Cond.code ({ cls := "PuppetTheatreModel", name := "send", desc := "(I)I" } : Jvm.MethodName) prog_10_method_19_code (2 : Nat) (Option.some Jvm.ClassFile.FieldType.int)) ∈ lw_all := pt_all (List.mem_of_getElem? (i := 1449) rfl) (by decide +kernel)
set_option maxRecDepth 100000 in
theorem kw_1457 : (Jvm.Cond.code ({ cls := "PuppetTheatreModel", name := "tick", desc := "(I)I" } : Jvm.MethodName) prog_10_method_20_code (4 : Nat) (Option.some Jvm.ClassFile.FieldType.int)) ∈ lw_all := pt_all (List.mem_of_getElem? (i := 1457) rfl) (by decide +kernel)
set_option maxRecDepth 100000 in
theorem kw_1465 : (Jvm.Cond.code ({ cls := "PuppetTheatreModel", name := "states", desc := "()I" } : Jvm.MethodName) prog_10_method_21_code (1 : Nat) (Option.some Jvm.ClassFile.FieldType.int)) ∈ lw_all := pt_all (List.mem_of_getElem? (i := 1465) rfl) (by decide +kernel)
set_option maxRecDepth 100000 in
theorem kw_1466 : (Jvm.Cond.methodLink "PuppetTheatreModel" (140 : Nat) ({ cls := "PuppetTheatreModel", name := "plain", desc := "(I)I" } : Jvm.MethodName)) ∈ lw_all := pt_all (List.mem_of_getElem? (i := 1466) rfl) (by decide +kernel)
set_option maxRecDepth 100000 in
theorem kw_1468 : (Jvm.Cond.instanceMethod ({ cls := "PuppetTheatreModel", name := "plain", desc := "(I)I" } : Jvm.MethodName)) ∈ lw_all := pt_all (List.mem_of_getElem? (i := 1468) rfl) (by decide +kernel)
set_option maxRecDepth 100000 in
theorem kw_1469 : (Jvm.Cond.code ({ cls := "PuppetTheatreModel", name := "plain", desc := "(I)I" } : Jvm.MethodName) prog_10_method_7_code (2 : Nat) (Option.some Jvm.ClassFile.FieldType.int)) ∈ lw_all := pt_all (List.mem_of_getElem? (i := 1469) rfl) (by decide +kernel)
set_option maxRecDepth 100000 in
theorem kw_1473 : (Jvm.Cond.code ({ cls := "PuppetTheatreModel", name := "transitions", desc := "()I" } : Jvm.MethodName) prog_10_method_22_code (1 : Nat) (Option.some Jvm.ClassFile.FieldType.int)) ∈ lw_all := pt_all (List.mem_of_getElem? (i := 1473) rfl) (by decide +kernel)
set_option maxRecDepth 100000 in
theorem kw_1477 : (Jvm.Cond.code ({ cls := "PuppetTheatreModel", name := "ofState", desc := "(II)I" } : Jvm.MethodName) prog_10_method_24_code (3 : Nat) (Option.some Jvm.ClassFile.FieldType.int)) ∈ lw_all := pt_all (List.mem_of_getElem? (i := 1477) rfl) (by decide +kernel)
set_option maxRecDepth 100000 in
theorem kw_1478 : (Jvm.Cond.methodLink "PuppetTheatreModel" (146 : Nat) ({ cls := "PuppetTheatreModel", name := "of", desc := "(II)I" } : Jvm.MethodName)) ∈ lw_all := pt_all (List.mem_of_getElem? (i := 1478) rfl) (by decide +kernel)
set_option maxRecDepth 100000 in
theorem kw_1480 : (Jvm.Cond.instanceMethod ({ cls := "PuppetTheatreModel", name := "of", desc := "(II)I" } : Jvm.MethodName)) ∈ lw_all := pt_all (List.mem_of_getElem? (i := 1480) rfl) (by decide +kernel)
set_option maxRecDepth 100000 in
theorem kw_1481 : (Jvm.Cond.code ({ cls := "PuppetTheatreModel", name := "of", desc := "(II)I" } : Jvm.MethodName) prog_10_method_23_code (3 : Nat) (Option.some Jvm.ClassFile.FieldType.int)) ∈ lw_all := pt_all (List.mem_of_getElem? (i := 1481) rfl) (by decide +kernel)
set_option maxRecDepth 100000 in
theorem kw_1482 : (Jvm.Cond.methodLink "PuppetTheatreModel" (143 : Nat) ({ cls := "PuppetTheatreModel$Chart", name := "parent", desc := "(I)I" } : Jvm.MethodName)) ∈ lw_all := pt_all (List.mem_of_getElem? (i := 1482) rfl) (by decide +kernel)
set_option maxRecDepth 100000 in
theorem kw_1486 : (Jvm.Cond.code ({ cls := "PuppetTheatreModel", name := "isRunning", desc := "()Z" } : Jvm.MethodName) prog_10_method_25_code (1 : Nat) (Option.some Jvm.ClassFile.FieldType.boolean)) ∈ lw_all := pt_all (List.mem_of_getElem? (i := 1486) rfl) (by decide +kernel)
set_option maxRecDepth 100000 in
theorem kw_1490 : (Jvm.Cond.code ({ cls := "PuppetTheatreModel", name := "active", desc := "()I" } : Jvm.MethodName) prog_10_method_26_code (1 : Nat) (Option.some Jvm.ClassFile.FieldType.int)) ∈ lw_all := pt_all (List.mem_of_getElem? (i := 1490) rfl) (by decide +kernel)
set_option maxRecDepth 100000 in
theorem kw_1494 : (Jvm.Cond.code ({ cls := "PuppetTheatreModel", name := "isOver", desc := "()Z" } : Jvm.MethodName) prog_10_method_27_code (1 : Nat) (Option.some Jvm.ClassFile.FieldType.boolean)) ∈ lw_all := pt_all (List.mem_of_getElem? (i := 1494) rfl) (by decide +kernel)
set_option maxRecDepth 100000 in
theorem kw_1495 : (Jvm.Cond.methodLink "PuppetTheatreModel" (150 : Nat) ({ cls := "PuppetTheatreModel$Run", name := "isOver", desc := "()Z" } : Jvm.MethodName)) ∈ lw_all := pt_all (List.mem_of_getElem? (i := 1495) rfl) (by decide +kernel)
set_option maxRecDepth 100000 in
theorem kw_1499 : (Jvm.Cond.code ({ cls := "PuppetTheatreModel", name := "isEnded", desc := "(I)Z" } : Jvm.MethodName) prog_10_method_28_code (2 : Nat) (Option.some Jvm.ClassFile.FieldType.boolean)) ∈ lw_all := pt_all (List.mem_of_getElem? (i := 1499) rfl) (by decide +kernel)
set_option maxRecDepth 100000 in
theorem kw_1500 : (Jvm.Cond.methodLink "PuppetTheatreModel" (153 : Nat) ({ cls := "PuppetTheatreModel$Run", name := "isEnded", desc := "(I)Z" } : Jvm.MethodName)) ∈ lw_all := pt_all (List.mem_of_getElem? (i := 1500) rfl) (by decide +kernel)
set_option maxRecDepth 100000 in
theorem kw_1504 : (Jvm.Cond.code ({ cls := "PuppetTheatreModel", name := "ageOf", desc := "(I)I" } : Jvm.MethodName) prog_10_method_30_code (2 : Nat) (Option.some Jvm.ClassFile.FieldType.int)) ∈ lw_all := pt_all (List.mem_of_getElem? (i := 1504) rfl) (by decide +kernel)
set_option maxRecDepth 100000 in
theorem kw_1505 : (Jvm.Cond.methodLink "PuppetTheatreModel" (159 : Nat) ({ cls := "PuppetTheatreModel", name := "age", desc := "(I)I" } : Jvm.MethodName)) ∈ lw_all := pt_all (List.mem_of_getElem? (i := 1505) rfl) (by decide +kernel)
set_option maxRecDepth 100000 in
theorem kw_1507 : (Jvm.Cond.instanceMethod ({ cls := "PuppetTheatreModel", name := "age", desc := "(I)I" } : Jvm.MethodName)) ∈ lw_all := pt_all (List.mem_of_getElem? (i := 1507) rfl) (by decide +kernel)
set_option maxRecDepth 100000 in
theorem kw_1508 : (Jvm.Cond.code ({ cls := "PuppetTheatreModel", name := "age", desc := "(I)I" } : Jvm.MethodName) prog_10_method_29_code (2 : Nat) (Option.some Jvm.ClassFile.FieldType.int)) ∈ lw_all := pt_all (List.mem_of_getElem? (i := 1508) rfl) (by decide +kernel)
set_option maxRecDepth 100000 in
theorem kw_1512 : (Jvm.Cond.code ({ cls := "PuppetTheatreModel", name := "record", desc := "(I)I" } : Jvm.MethodName) prog_10_method_31_code (2 : Nat) (Option.some Jvm.ClassFile.FieldType.int)) ∈ lw_all := pt_all (List.mem_of_getElem? (i := 1512) rfl) (by decide +kernel)
set_option maxRecDepth 100000 in
theorem kw_1516 : (Jvm.Cond.code ({ cls := "PuppetTheatreModel", name := "variable", desc := "(I)I" } : Jvm.MethodName) prog_10_method_32_code (2 : Nat) (Option.some Jvm.ClassFile.FieldType.int)) ∈ lw_all := pt_all (List.mem_of_getElem? (i := 1516) rfl) (by decide +kernel)
set_option maxRecDepth 100000 in
theorem kw_1520 : (Jvm.Cond.code ({ cls := "PuppetTheatreModel", name := "clock", desc := "()I" } : Jvm.MethodName) prog_10_method_33_code (1 : Nat) (Option.some Jvm.ClassFile.FieldType.int)) ∈ lw_all := pt_all (List.mem_of_getElem? (i := 1520) rfl) (by decide +kernel)
set_option maxRecDepth 100000 in
theorem kw_1524 : (Jvm.Cond.code ({ cls := "PuppetTheatreModel", name := "fired", desc := "(I)I" } : Jvm.MethodName) prog_10_method_34_code (2 : Nat) (Option.some Jvm.ClassFile.FieldType.int)) ∈ lw_all := pt_all (List.mem_of_getElem? (i := 1524) rfl) (by decide +kernel)
set_option maxRecDepth 100000 in
theorem kw_1528 : (Jvm.Cond.code ({ cls := "PuppetTheatreModel", name := "covered", desc := "()I" } : Jvm.MethodName) prog_10_method_36_code (1 : Nat) (Option.some Jvm.ClassFile.FieldType.int)) ∈ lw_all := pt_all (List.mem_of_getElem? (i := 1528) rfl) (by decide +kernel)
set_option maxRecDepth 100000 in
theorem kw_1529 : (Jvm.Cond.methodLink "PuppetTheatreModel" (174 : Nat) ({ cls := "PuppetTheatreModel", name := "covers", desc := "()I" } : Jvm.MethodName)) ∈ lw_all := pt_all (List.mem_of_getElem? (i := 1529) rfl) (by decide +kernel)
set_option maxRecDepth 100000 in
theorem kw_1531 : (Jvm.Cond.instanceMethod ({ cls := "PuppetTheatreModel", name := "covers", desc := "()I" } : Jvm.MethodName)) ∈ lw_all := pt_all (List.mem_of_getElem? (i := 1531) rfl) (by decide +kernel)
set_option maxRecDepth 100000 in
theorem kw_1532 : (Jvm.Cond.code ({ cls := "PuppetTheatreModel", name := "covers", desc := "()I" } : Jvm.MethodName) prog_10_method_35_code (3 : Nat) (Option.some Jvm.ClassFile.FieldType.int)) ∈ lw_all := pt_all (List.mem_of_getElem? (i := 1532) rfl) (by decide +kernel)
set_option maxRecDepth 100000 in
theorem kw_1536 : (Jvm.Cond.code ({ cls := "PuppetTheatreModel", name := "lost", desc := "()I" } : Jvm.MethodName) prog_10_method_37_code (1 : Nat) (Option.some Jvm.ClassFile.FieldType.int)) ∈ lw_all := pt_all (List.mem_of_getElem? (i := 1536) rfl) (by decide +kernel)
set_option maxRecDepth 100000 in
theorem kw_1540 : (Jvm.Cond.code ({ cls := "PuppetTheatreModel", name := "restless", desc := "()I" } : Jvm.MethodName) prog_10_method_38_code (1 : Nat) (Option.some Jvm.ClassFile.FieldType.int)) ∈ lw_all := pt_all (List.mem_of_getElem? (i := 1540) rfl) (by decide +kernel)
set_option maxRecDepth 100000 in
theorem kw_1544 : (Jvm.Cond.code ({ cls := "PuppetTheatreModel", name := "wouldFire", desc := "(I)I" } : Jvm.MethodName) prog_10_method_40_code (2 : Nat) (Option.some Jvm.ClassFile.FieldType.int)) ∈ lw_all := pt_all (List.mem_of_getElem? (i := 1544) rfl) (by decide +kernel)
set_option maxRecDepth 100000 in
theorem kw_1545 : (Jvm.Cond.methodLink "PuppetTheatreModel" (183 : Nat) ({ cls := "PuppetTheatreModel", name := "isNoEvent", desc := "(I)Z" } : Jvm.MethodName)) ∈ lw_all := pt_all (List.mem_of_getElem? (i := 1545) rfl) (by decide +kernel)
set_option maxRecDepth 100000 in
theorem kw_1547 : (Jvm.Cond.instanceMethod ({ cls := "PuppetTheatreModel", name := "isNoEvent", desc := "(I)Z" } : Jvm.MethodName)) ∈ lw_all := pt_all (List.mem_of_getElem? (i := 1547) rfl) (by decide +kernel)
set_option maxRecDepth 100000 in
theorem kw_1548 : (Jvm.Cond.code ({ cls := "PuppetTheatreModel", name := "isNoEvent", desc := "(I)Z" } : Jvm.MethodName) prog_10_method_39_code (2 : Nat) (Option.some Jvm.ClassFile.FieldType.boolean)) ∈ lw_all := pt_all (List.mem_of_getElem? (i := 1548) rfl) (by decide +kernel)
set_option maxRecDepth 100000 in
theorem kw_1583 : (Jvm.Cond.code ({ cls := "PuppetTheatreModel", name := "wouldBe", desc := "(I)I" } : Jvm.MethodName) prog_10_method_41_code (3 : Nat) (Option.some Jvm.ClassFile.FieldType.int)) ∈ lw_all := pt_all (List.mem_of_getElem? (i := 1583) rfl) (by decide +kernel)
set_option maxRecDepth 100000 in
theorem kw_1587 : (Jvm.Cond.code ({ cls := "PuppetTheatreModel", name := "open", desc := "()I" } : Jvm.MethodName) prog_10_method_42_code (4 : Nat) (Option.some Jvm.ClassFile.FieldType.int)) ∈ lw_all := pt_all (List.mem_of_getElem? (i := 1587) rfl) (by decide +kernel)
set_option maxRecDepth 100000 in
theorem kw_1592 : (Jvm.Cond.code ({ cls := "PuppetTheatreModel", name := "rowTo", desc := "(II)I" } : Jvm.MethodName) prog_10_method_44_code (3 : Nat) (Option.some Jvm.ClassFile.FieldType.int)) ∈ lw_all := pt_all (List.mem_of_getElem? (i := 1592) rfl) (by decide +kernel)
set_option maxRecDepth 100000 in
theorem kw_1614 : (Jvm.Cond.code ({ cls := "PuppetTheatreModel", name := "rowFor", desc := "(II)I" } : Jvm.MethodName) prog_10_method_45_code (3 : Nat) (Option.some Jvm.ClassFile.FieldType.int)) ∈ lw_all := pt_all (List.mem_of_getElem? (i := 1614) rfl) (by decide +kernel)
set_option maxRecDepth 100000 in
theorem kw_1618 : (Jvm.Cond.code ({ cls := "PuppetTheatreModel", name := "rowAt", desc := "(I)I" } : Jvm.MethodName) prog_10_method_47_code (2 : Nat) (Option.some Jvm.ClassFile.FieldType.int)) ∈ lw_all := pt_all (List.mem_of_getElem? (i := 1618) rfl) (by decide +kernel)
set_option maxRecDepth 100000 in
theorem kw_1619 : (Jvm.Cond.methodLink "PuppetTheatreModel" (216 : Nat) ({ cls := "PuppetTheatreModel", name := "rowed", desc := "(I)I" } : Jvm.MethodName)) ∈ lw_all := pt_all (List.mem_of_getElem? (i := 1619) rfl) (by decide +kernel)
set_option maxRecDepth 100000 in
theorem kw_1621 : (Jvm.Cond.instanceMethod ({ cls := "PuppetTheatreModel", name := "rowed", desc := "(I)I" } : Jvm.MethodName)) ∈ lw_all := pt_all (List.mem_of_getElem? (i := 1621) rfl) (by decide +kernel)
set_option maxRecDepth 100000 in
theorem kw_1622 : (Jvm.Cond.code ({ cls := "PuppetTheatreModel", name := "rowed", desc := "(I)I" } : Jvm.MethodName) prog_10_method_46_code (2 : Nat) (Option.some Jvm.ClassFile.FieldType.int)) ∈ lw_all := pt_all (List.mem_of_getElem? (i := 1622) rfl) (by decide +kernel)
set_option maxRecDepth 100000 in
theorem kw_1626 : (Jvm.Cond.code ({ cls := "PuppetTheatreModel", name := "looked", desc := "()I" } : Jvm.MethodName) prog_10_method_48_code (1 : Nat) (Option.some Jvm.ClassFile.FieldType.int)) ∈ lw_all := pt_all (List.mem_of_getElem? (i := 1626) rfl) (by decide +kernel)
set_option maxRecDepth 100000 in
theorem kw_1630 : (Jvm.Cond.code ({ cls := "PuppetTheatreModel", name := "meanAge", desc := "()D" } : Jvm.MethodName) prog_10_method_49_code (3 : Nat) (Option.some Jvm.ClassFile.FieldType.double)) ∈ lw_all := pt_all (List.mem_of_getElem? (i := 1630) rfl) (by decide +kernel)
set_option maxRecDepth 100000 in
theorem kw_1634 : (Jvm.Cond.code ({ cls := "PuppetTheatreModel", name := "digest", desc := "()J" } : Jvm.MethodName) prog_10_method_51_code (5 : Nat) (Option.some Jvm.ClassFile.FieldType.long)) ∈ lw_all := pt_all (List.mem_of_getElem? (i := 1634) rfl) (by decide +kernel)
set_option maxRecDepth 100000 in
theorem kw_1635 : (Jvm.Cond.constantLong "PuppetTheatreModel" (221 : Nat) (58059 : Int64)) ∈ lw_all := pt_all (List.mem_of_getElem? (i := 1635) rfl) (by decide +kernel)
set_option maxRecDepth 100000 in
theorem kw_1636 : (Jvm.Cond.methodLink "PuppetTheatreModel" (223 : Nat) ({ cls := "PuppetTheatreModel", name := "add", desc := "(JJ)J" } : Jvm.MethodName)) ∈ lw_all := pt_all (List.mem_of_getElem? (i := 1636) rfl) (by decide +kernel)
set_option maxRecDepth 100000 in
theorem kw_1637 : (Jvm.Cond.static ({ cls := "PuppetTheatreModel", name := "add", desc := "(JJ)J" } : Jvm.MethodName)) ∈ lw_all := pt_all (List.mem_of_getElem? (i := 1637) rfl) (by decide +kernel)
set_option maxRecDepth 100000 in
theorem kw_1638 : (Jvm.Cond.code ({ cls := "PuppetTheatreModel", name := "add", desc := "(JJ)J" } : Jvm.MethodName) prog_10_method_50_code (4 : Nat) (Option.some Jvm.ClassFile.FieldType.long)) ∈ lw_all := pt_all (List.mem_of_getElem? (i := 1638) rfl) (by decide +kernel)
set_option maxRecDepth 100000 in
theorem kw_1639 : (Jvm.Cond.constantLong "PuppetTheatreModel" (219 : Nat) (31 : Int64)) ∈ lw_all := pt_all (List.mem_of_getElem? (i := 1639) rfl) (by decide +kernel)
set_option maxRecDepth 100000 in
theorem kw_1655 : (Jvm.Cond.castable "PuppetTheatreModel$State" "java/lang/Object") ∈ lw_all := pt_all (List.mem_of_getElem? (i := 1655) rfl) (by decide +kernel)
set_option maxRecDepth 100000 in
theorem kw_1659 : (Jvm.Cond.castable "PuppetTheatreModel$Transition" "java/lang/Object") ∈ lw_all := pt_all (List.mem_of_getElem? (i := 1659) rfl) (by decide +kernel)
