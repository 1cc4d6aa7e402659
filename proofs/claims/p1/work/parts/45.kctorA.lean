set_option maxRecDepth 100000 in
theorem kw_87 : (Jvm.Cond.code ({ cls := "PuppetTheatre", name := "<init>", desc := "()V" } : Jvm.MethodName) prog_1_method_1_code (1 : Nat) (Option.none : Option Jvm.ClassFile.FieldType)) ∈ lw_all := pt_all (List.mem_of_getElem? (i := 87) rfl) (by decide +kernel)
set_option maxRecDepth 100000 in
theorem kw_88 : (Jvm.Cond.methodLink "PuppetTheatre" (1 : Nat) ({ cls := "java/lang/Object", name := "<init>", desc := "()V" } : Jvm.MethodName)) ∈ lw_all := pt_all (List.mem_of_getElem? (i := 88) rfl) (by decide +kernel)
set_option maxRecDepth 100000 in
theorem kw_91 : (Jvm.Cond.classLink "PuppetTheatre" (7 : Nat) "PuppetTheatre$Chart") ∈ lw_all := pt_all (List.mem_of_getElem? (i := 91) rfl) (by decide +kernel)
set_option maxRecDepth 100000 in
theorem kw_92 : (Jvm.Cond.instantiable "PuppetTheatre$Chart" (7 : Nat)) ∈ lw_all := pt_all (List.mem_of_getElem? (i := 92) rfl) (by decide +kernel)
set_option maxRecDepth 100000 in
theorem kw_93 : (Jvm.Cond.methodLink "PuppetTheatre" (9 : Nat) ({ cls := "PuppetTheatre$Chart", name := "<init>", desc := "()V" } : Jvm.MethodName)) ∈ lw_all := pt_all (List.mem_of_getElem? (i := 93) rfl) (by decide +kernel)
set_option maxRecDepth 100000 in
theorem kw_94 : (Jvm.Cond.instanceMethod ({ cls := "PuppetTheatre$Chart", name := "<init>", desc := "()V" } : Jvm.MethodName)) ∈ lw_all := pt_all (List.mem_of_getElem? (i := 94) rfl) (by decide +kernel)
set_option maxRecDepth 100000 in
theorem kw_95 : (Jvm.Cond.code ({ cls := "PuppetTheatre$Chart", name := "<init>", desc := "()V" } : Jvm.MethodName) prog_3_method_1_code (2 : Nat) (Option.none : Option Jvm.ClassFile.FieldType)) ∈ lw_all := pt_all (List.mem_of_getElem? (i := 95) rfl) (by decide +kernel)
set_option maxRecDepth 100000 in
theorem kw_96 : (Jvm.Cond.methodLink "PuppetTheatre$Chart" (3 : Nat) ({ cls := "java/lang/Object", name := "<init>", desc := "()V" } : Jvm.MethodName)) ∈ lw_all := pt_all (List.mem_of_getElem? (i := 96) rfl) (by decide +kernel)
set_option maxRecDepth 100000 in
theorem kw_97 : (Jvm.Cond.classLink "PuppetTheatre$Chart" (9 : Nat) "PuppetTheatre$State") ∈ lw_all := pt_all (List.mem_of_getElem? (i := 97) rfl) (by decide +kernel)
set_option maxRecDepth 100000 in
theorem kw_98 : (Jvm.Cond.arrayOver (Jvm.ClassFile.FieldType.object "PuppetTheatre$State")) ∈ lw_all := pt_all (List.mem_of_getElem? (i := 98) rfl) (by decide +kernel)
set_option maxRecDepth 100000 in
theorem kw_99 : (Jvm.Cond.classLink "PuppetTheatre$Chart" (17 : Nat) "PuppetTheatre$Transition") ∈ lw_all := pt_all (List.mem_of_getElem? (i := 99) rfl) (by decide +kernel)
set_option maxRecDepth 100000 in
theorem kw_100 : (Jvm.Cond.arrayOver (Jvm.ClassFile.FieldType.object "PuppetTheatre$Transition")) ∈ lw_all := pt_all (List.mem_of_getElem? (i := 100) rfl) (by decide +kernel)
set_option maxRecDepth 100000 in
theorem kw_104 : (Jvm.Cond.instantiable "PuppetTheatre$State" (9 : Nat)) ∈ lw_all := pt_all (List.mem_of_getElem? (i := 104) rfl) (by decide +kernel)
set_option maxRecDepth 100000 in
theorem kw_105 : (Jvm.Cond.methodLinkNest "PuppetTheatre$Chart" (38 : Nat) ({ cls := "PuppetTheatre$State", name := "<init>", desc := "()V" } : Jvm.MethodName) "PuppetTheatre") ∈ lw_all := pt_all (List.mem_of_getElem? (i := 105) rfl) (by decide +kernel)
set_option maxRecDepth 100000 in
theorem kw_106 : (Jvm.Cond.instanceMethod ({ cls := "PuppetTheatre$State", name := "<init>", desc := "()V" } : Jvm.MethodName)) ∈ lw_all := pt_all (List.mem_of_getElem? (i := 106) rfl) (by decide +kernel)
set_option maxRecDepth 100000 in
theorem kw_107 : (Jvm.Cond.code ({ cls := "PuppetTheatre$State", name := "<init>", desc := "()V" } : Jvm.MethodName) prog_7_method_1_code (1 : Nat) (Option.none : Option Jvm.ClassFile.FieldType)) ∈ lw_all := pt_all (List.mem_of_getElem? (i := 107) rfl) (by decide +kernel)
set_option maxRecDepth 100000 in
theorem kw_108 : (Jvm.Cond.methodLink "PuppetTheatre$State" (3 : Nat) ({ cls := "java/lang/Object", name := "<init>", desc := "()V" } : Jvm.MethodName)) ∈ lw_all := pt_all (List.mem_of_getElem? (i := 108) rfl) (by decide +kernel)
set_option maxRecDepth 100000 in
theorem kw_109 : (Jvm.Cond.classLink "PuppetTheatre$State" (9 : Nat) "PuppetTheatre$Action") ∈ lw_all := pt_all (List.mem_of_getElem? (i := 109) rfl) (by decide +kernel)
set_option maxRecDepth 100000 in
theorem kw_110 : (Jvm.Cond.instantiable "PuppetTheatre$Action" (3 : Nat)) ∈ lw_all := pt_all (List.mem_of_getElem? (i := 110) rfl) (by decide +kernel)
set_option maxRecDepth 100000 in
theorem kw_111 : (Jvm.Cond.methodLinkNest "PuppetTheatre$State" (11 : Nat) ({ cls := "PuppetTheatre$Action", name := "<init>", desc := "()V" } : Jvm.MethodName) "PuppetTheatre") ∈ lw_all := pt_all (List.mem_of_getElem? (i := 111) rfl) (by decide +kernel)
set_option maxRecDepth 100000 in
theorem kw_112 : (Jvm.Cond.instanceMethod ({ cls := "PuppetTheatre$Action", name := "<init>", desc := "()V" } : Jvm.MethodName)) ∈ lw_all := pt_all (List.mem_of_getElem? (i := 112) rfl) (by decide +kernel)
set_option maxRecDepth 100000 in
theorem kw_113 : (Jvm.Cond.code ({ cls := "PuppetTheatre$Action", name := "<init>", desc := "()V" } : Jvm.MethodName) prog_2_method_1_code (1 : Nat) (Option.none : Option Jvm.ClassFile.FieldType)) ∈ lw_all := pt_all (List.mem_of_getElem? (i := 113) rfl) (by decide +kernel)
set_option maxRecDepth 100000 in
theorem kw_114 : (Jvm.Cond.methodLink "PuppetTheatre$Action" (1 : Nat) ({ cls := "java/lang/Object", name := "<init>", desc := "()V" } : Jvm.MethodName)) ∈ lw_all := pt_all (List.mem_of_getElem? (i := 114) rfl) (by decide +kernel)
set_option maxRecDepth 100000 in
theorem kw_129 : (Jvm.Cond.fieldLink "PuppetTheatre$State" (12 : Nat) "PuppetTheatre$State" "entering" "LPuppetTheatre$Action;") ∈ lw_all := pt_all (List.mem_of_getElem? (i := 129) rfl) (by decide +kernel)
set_option maxRecDepth 100000 in
theorem kw_132 : (Jvm.Cond.fieldLink "PuppetTheatre$State" (18 : Nat) "PuppetTheatre$State" "leaving" "LPuppetTheatre$Action;") ∈ lw_all := pt_all (List.mem_of_getElem? (i := 132) rfl) (by decide +kernel)
set_option maxRecDepth 100000 in
theorem kw_139 : (Jvm.Cond.fieldLink "PuppetTheatre$State" (25 : Nat) "PuppetTheatre$State" "parent" "I") ∈ lw_all := pt_all (List.mem_of_getElem? (i := 139) rfl) (by decide +kernel)
set_option maxRecDepth 100000 in
theorem kw_175 : (Jvm.Cond.instantiable "PuppetTheatre$Transition" (9 : Nat)) ∈ lw_all := pt_all (List.mem_of_getElem? (i := 175) rfl) (by decide +kernel)
set_option maxRecDepth 100000 in
theorem kw_176 : (Jvm.Cond.methodLinkNest "PuppetTheatre$Chart" (39 : Nat) ({ cls := "PuppetTheatre$Transition", name := "<init>", desc := "()V" } : Jvm.MethodName) "PuppetTheatre") ∈ lw_all := pt_all (List.mem_of_getElem? (i := 176) rfl) (by decide +kernel)
set_option maxRecDepth 100000 in
theorem kw_177 : (Jvm.Cond.instanceMethod ({ cls := "PuppetTheatre$Transition", name := "<init>", desc := "()V" } : Jvm.MethodName)) ∈ lw_all := pt_all (List.mem_of_getElem? (i := 177) rfl) (by decide +kernel)
set_option maxRecDepth 100000 in
theorem kw_178 : (Jvm.Cond.code ({ cls := "PuppetTheatre$Transition", name := "<init>", desc := "()V" } : Jvm.MethodName) prog_8_method_1_code (1 : Nat) (Option.none : Option Jvm.ClassFile.FieldType)) ∈ lw_all := pt_all (List.mem_of_getElem? (i := 178) rfl) (by decide +kernel)
set_option maxRecDepth 100000 in
theorem kw_179 : (Jvm.Cond.methodLink "PuppetTheatre$Transition" (3 : Nat) ({ cls := "java/lang/Object", name := "<init>", desc := "()V" } : Jvm.MethodName)) ∈ lw_all := pt_all (List.mem_of_getElem? (i := 179) rfl) (by decide +kernel)
set_option maxRecDepth 100000 in
theorem kw_180 : (Jvm.Cond.classLink "PuppetTheatre$Transition" (9 : Nat) "PuppetTheatre$Action") ∈ lw_all := pt_all (List.mem_of_getElem? (i := 180) rfl) (by decide +kernel)
set_option maxRecDepth 100000 in
theorem kw_181 : (Jvm.Cond.methodLinkNest "PuppetTheatre$Transition" (11 : Nat) ({ cls := "PuppetTheatre$Action", name := "<init>", desc := "()V" } : Jvm.MethodName) "PuppetTheatre") ∈ lw_all := pt_all (List.mem_of_getElem? (i := 181) rfl) (by decide +kernel)
set_option maxRecDepth 100000 in
theorem kw_182 : (Jvm.Cond.fieldLink "PuppetTheatre$Transition" (12 : Nat) "PuppetTheatre$Transition" "action" "LPuppetTheatre$Action;") ∈ lw_all := pt_all (List.mem_of_getElem? (i := 182) rfl) (by decide +kernel)
set_option maxRecDepth 100000 in
theorem kw_191 : (Jvm.Cond.fieldLink "PuppetTheatre$Transition" (18 : Nat) "PuppetTheatre$Transition" "to" "I") ∈ lw_all := pt_all (List.mem_of_getElem? (i := 191) rfl) (by decide +kernel)
set_option maxRecDepth 100000 in
theorem kw_194 : (Jvm.Cond.fieldLink "PuppetTheatre$Transition" (22 : Nat) "PuppetTheatre$Transition" "scope" "I") ∈ lw_all := pt_all (List.mem_of_getElem? (i := 194) rfl) (by decide +kernel)
set_option maxRecDepth 100000 in
theorem kw_255 : (Jvm.Cond.classLink "PuppetTheatre" (16 : Nat) "PuppetTheatre$Play") ∈ lw_all := pt_all (List.mem_of_getElem? (i := 255) rfl) (by decide +kernel)
set_option maxRecDepth 100000 in
theorem kw_256 : (Jvm.Cond.instantiable "PuppetTheatre$Play" (11 : Nat)) ∈ lw_all := pt_all (List.mem_of_getElem? (i := 256) rfl) (by decide +kernel)
set_option maxRecDepth 100000 in
theorem kw_257 : (Jvm.Cond.methodLink "PuppetTheatre" (18 : Nat) ({ cls := "PuppetTheatre$Play", name := "<init>", desc := "(LPuppetTheatre$Chart;)V" } : Jvm.MethodName)) ∈ lw_all := pt_all (List.mem_of_getElem? (i := 257) rfl) (by decide +kernel)
set_option maxRecDepth 100000 in
theorem kw_258 : (Jvm.Cond.instanceMethod ({ cls := "PuppetTheatre$Play", name := "<init>", desc := "(LPuppetTheatre$Chart;)V" } : Jvm.MethodName)) ∈ lw_all := pt_all (List.mem_of_getElem? (i := 258) rfl) (by decide +kernel)
set_option maxRecDepth 100000 in
theorem kw_259 : (Jvm.Cond.code ({ cls := "PuppetTheatre$Play", name := "<init>", desc := "(LPuppetTheatre$Chart;)V" } : Jvm.MethodName) prog_5_method_1_code (2 : Nat) (Option.none : Option Jvm.ClassFile.FieldType)) ∈ lw_all := pt_all (List.mem_of_getElem? (i := 259) rfl) (by decide +kernel)
set_option maxRecDepth 100000 in
theorem kw_260 : (Jvm.Cond.methodLink "PuppetTheatre$Play" (3 : Nat) ({ cls := "java/lang/Object", name := "<init>", desc := "()V" } : Jvm.MethodName)) ∈ lw_all := pt_all (List.mem_of_getElem? (i := 260) rfl) (by decide +kernel)
set_option maxRecDepth 100000 in
theorem kw_261 : (Jvm.Cond.classLink "PuppetTheatre$Play" (9 : Nat) "PuppetTheatre$Situation") ∈ lw_all := pt_all (List.mem_of_getElem? (i := 261) rfl) (by decide +kernel)
set_option maxRecDepth 100000 in
theorem kw_262 : (Jvm.Cond.instantiable "PuppetTheatre$Situation" (4 : Nat)) ∈ lw_all := pt_all (List.mem_of_getElem? (i := 262) rfl) (by decide +kernel)
set_option maxRecDepth 100000 in
theorem kw_263 : (Jvm.Cond.methodLink "PuppetTheatre$Play" (11 : Nat) ({ cls := "PuppetTheatre$Situation", name := "<init>", desc := "()V" } : Jvm.MethodName)) ∈ lw_all := pt_all (List.mem_of_getElem? (i := 263) rfl) (by decide +kernel)
set_option maxRecDepth 100000 in
theorem kw_264 : (Jvm.Cond.instanceMethod ({ cls := "PuppetTheatre$Situation", name := "<init>", desc := "()V" } : Jvm.MethodName)) ∈ lw_all := pt_all (List.mem_of_getElem? (i := 264) rfl) (by decide +kernel)
set_option maxRecDepth 100000 in
theorem kw_265 : (Jvm.Cond.code ({ cls := "PuppetTheatre$Situation", name := "<init>", desc := "()V" } : Jvm.MethodName) prog_6_method_1_code (2 : Nat) (Option.none : Option Jvm.ClassFile.FieldType)) ∈ lw_all := pt_all (List.mem_of_getElem? (i := 265) rfl) (by decide +kernel)
set_option maxRecDepth 100000 in
theorem kw_266 : (Jvm.Cond.methodLink "PuppetTheatre$Situation" (3 : Nat) ({ cls := "java/lang/Object", name := "<init>", desc := "()V" } : Jvm.MethodName)) ∈ lw_all := pt_all (List.mem_of_getElem? (i := 266) rfl) (by decide +kernel)
set_option maxRecDepth 100000 in
theorem kw_330 : (Jvm.Cond.classLink "PuppetTheatre" (28 : Nat) "PuppetTheatre$Look") ∈ lw_all := pt_all (List.mem_of_getElem? (i := 330) rfl) (by decide +kernel)
set_option maxRecDepth 100000 in
theorem kw_331 : (Jvm.Cond.instantiable "PuppetTheatre$Look" (9 : Nat)) ∈ lw_all := pt_all (List.mem_of_getElem? (i := 331) rfl) (by decide +kernel)
set_option maxRecDepth 100000 in
theorem kw_332 : (Jvm.Cond.methodLink "PuppetTheatre" (30 : Nat) ({ cls := "PuppetTheatre$Look", name := "<init>", desc := "(LPuppetTheatre$Play;)V" } : Jvm.MethodName)) ∈ lw_all := pt_all (List.mem_of_getElem? (i := 332) rfl) (by decide +kernel)
set_option maxRecDepth 100000 in
theorem kw_333 : (Jvm.Cond.instanceMethod ({ cls := "PuppetTheatre$Look", name := "<init>", desc := "(LPuppetTheatre$Play;)V" } : Jvm.MethodName)) ∈ lw_all := pt_all (List.mem_of_getElem? (i := 333) rfl) (by decide +kernel)
set_option maxRecDepth 100000 in
theorem kw_334 : (Jvm.Cond.code ({ cls := "PuppetTheatre$Look", name := "<init>", desc := "(LPuppetTheatre$Play;)V" } : Jvm.MethodName) prog_4_method_1_code (3 : Nat) (Option.none : Option Jvm.ClassFile.FieldType)) ∈ lw_all := pt_all (List.mem_of_getElem? (i := 334) rfl) (by decide +kernel)
set_option maxRecDepth 100000 in
theorem kw_335 : (Jvm.Cond.methodLink "PuppetTheatre$Look" (3 : Nat) ({ cls := "java/lang/Object", name := "<init>", desc := "()V" } : Jvm.MethodName)) ∈ lw_all := pt_all (List.mem_of_getElem? (i := 335) rfl) (by decide +kernel)
set_option maxRecDepth 100000 in
theorem kw_336 : (Jvm.Cond.classLink "PuppetTheatre$Look" (15 : Nat) "PuppetTheatre$Situation") ∈ lw_all := pt_all (List.mem_of_getElem? (i := 336) rfl) (by decide +kernel)
set_option maxRecDepth 100000 in
theorem kw_337 : (Jvm.Cond.arrayOver (Jvm.ClassFile.FieldType.object "PuppetTheatre$Situation")) ∈ lw_all := pt_all (List.mem_of_getElem? (i := 337) rfl) (by decide +kernel)
set_option maxRecDepth 100000 in
theorem kw_338 : (Jvm.Cond.methodLink "PuppetTheatre$Look" (34 : Nat) ({ cls := "PuppetTheatre$Situation", name := "<init>", desc := "()V" } : Jvm.MethodName)) ∈ lw_all := pt_all (List.mem_of_getElem? (i := 338) rfl) (by decide +kernel)
-- decode rows
theorem dX0_init_0 : decode cX0_init 0 = .ok (.aload_n 0, 1) := by decide +kernel
theorem dX0_init_1 : decode cX0_init 1 = .ok (.invokespecial 1, 3) := by decide +kernel
theorem dX0_init_4 : decode cX0_init 4 = .ok (.return_, 1) := by decide +kernel
theorem dX5_init_0 : decode cX5_init 0 = .ok (.aload_n 0, 1) := by decide +kernel
theorem dX5_init_1 : decode cX5_init 1 = .ok (.invokespecial 3, 3) := by decide +kernel
theorem dX5_init_4 : decode cX5_init 4 = .ok (.aload_n 0, 1) := by decide +kernel
theorem dX5_init_5 : decode cX5_init 5 = .ok (.new 9, 3) := by decide +kernel
theorem dX5_init_8 : decode cX5_init 8 = .ok (.dup, 1) := by decide +kernel
theorem dX5_init_9 : decode cX5_init 9 = .ok (.invokespecial 11, 3) := by decide +kernel
theorem dX5_init_12 : decode cX5_init 12 = .ok (.putfield 12, 3) := by decide +kernel
theorem dX5_init_15 : decode cX5_init 15 = .ok (.aload_n 0, 1) := by decide +kernel
theorem dX5_init_16 : decode cX5_init 16 = .ok (.new 9, 3) := by decide +kernel
theorem dX5_init_19 : decode cX5_init 19 = .ok (.dup, 1) := by decide +kernel
theorem dX5_init_20 : decode cX5_init 20 = .ok (.invokespecial 11, 3) := by decide +kernel
theorem dX5_init_23 : decode cX5_init 23 = .ok (.putfield 18, 3) := by decide +kernel
theorem dX5_init_26 : decode cX5_init 26 = .ok (.aload_n 0, 1) := by decide +kernel
theorem dX5_init_27 : decode cX5_init 27 = .ok (.iconst 0, 1) := by decide +kernel
theorem dX5_init_28 : decode cX5_init 28 = .ok (.putfield 21, 3) := by decide +kernel
theorem dX5_init_31 : decode cX5_init 31 = .ok (.aload_n 0, 1) := by decide +kernel
theorem dX5_init_32 : decode cX5_init 32 = .ok (.iconst (-1), 1) := by decide +kernel
theorem dX5_init_33 : decode cX5_init 33 = .ok (.putfield 25, 3) := by decide +kernel
theorem dX5_init_36 : decode cX5_init 36 = .ok (.aload_n 0, 1) := by decide +kernel
theorem dX5_init_37 : decode cX5_init 37 = .ok (.iconst (-1), 1) := by decide +kernel
theorem dX5_init_38 : decode cX5_init 38 = .ok (.putfield 28, 3) := by decide +kernel
theorem dX5_init_41 : decode cX5_init 41 = .ok (.return_, 1) := by decide +kernel
theorem dX6_init_0 : decode cX6_init 0 = .ok (.aload_n 0, 1) := by decide +kernel
theorem dX6_init_1 : decode cX6_init 1 = .ok (.invokespecial 3, 3) := by decide +kernel
theorem dX6_init_4 : decode cX6_init 4 = .ok (.aload_n 0, 1) := by decide +kernel
theorem dX6_init_5 : decode cX6_init 5 = .ok (.new 9, 3) := by decide +kernel
theorem dX6_init_8 : decode cX6_init 8 = .ok (.dup, 1) := by decide +kernel
theorem dX6_init_9 : decode cX6_init 9 = .ok (.invokespecial 11, 3) := by decide +kernel
theorem dX6_init_12 : decode cX6_init 12 = .ok (.putfield 12, 3) := by decide +kernel
theorem dX6_init_15 : decode cX6_init 15 = .ok (.aload_n 0, 1) := by decide +kernel
theorem dX6_init_16 : decode cX6_init 16 = .ok (.iconst (-1), 1) := by decide +kernel
theorem dX6_init_17 : decode cX6_init 17 = .ok (.putfield 18, 3) := by decide +kernel
theorem dX6_init_20 : decode cX6_init 20 = .ok (.aload_n 0, 1) := by decide +kernel
theorem dX6_init_21 : decode cX6_init 21 = .ok (.iconst (-1), 1) := by decide +kernel
theorem dX6_init_22 : decode cX6_init 22 = .ok (.putfield 22, 3) := by decide +kernel
theorem dX6_init_25 : decode cX6_init 25 = .ok (.aload_n 0, 1) := by decide +kernel
theorem dX6_init_26 : decode cX6_init 26 = .ok (.iconst 0, 1) := by decide +kernel
theorem dX6_init_27 : decode cX6_init 27 = .ok (.putfield 25, 3) := by decide +kernel
theorem dX6_init_30 : decode cX6_init 30 = .ok (.return_, 1) := by decide +kernel
theorem dX4_init_0 : decode cX4_init 0 = .ok (.aload_n 0, 1) := by decide +kernel
theorem dX4_init_1 : decode cX4_init 1 = .ok (.invokespecial 3, 3) := by decide +kernel
theorem dX4_init_4 : decode cX4_init 4 = .ok (.aload_n 0, 1) := by decide +kernel
theorem dX4_init_5 : decode cX4_init 5 = .ok (.bipush 20, 2) := by decide +kernel
theorem dX4_init_7 : decode cX4_init 7 = .ok (.newarray .int, 2) := by decide +kernel
theorem dX4_init_9 : decode cX4_init 9 = .ok (.putfield 9, 3) := by decide +kernel
theorem dX4_init_12 : decode cX4_init 12 = .ok (.aload_n 0, 1) := by decide +kernel
theorem dX4_init_13 : decode cX4_init 13 = .ok (.bipush 20, 2) := by decide +kernel
theorem dX4_init_15 : decode cX4_init 15 = .ok (.newarray .int, 2) := by decide +kernel
theorem dX4_init_17 : decode cX4_init 17 = .ok (.putfield 15, 3) := by decide +kernel
theorem dX4_init_20 : decode cX4_init 20 = .ok (.aload_n 0, 1) := by decide +kernel
theorem dX4_init_21 : decode cX4_init 21 = .ok (.iconst 4, 1) := by decide +kernel
theorem dX4_init_22 : decode cX4_init 22 = .ok (.newarray .int, 2) := by decide +kernel
theorem dX4_init_24 : decode cX4_init 24 = .ok (.putfield 18, 3) := by decide +kernel
theorem dX4_init_27 : decode cX4_init 27 = .ok (.iconst 0, 1) := by decide +kernel
theorem dX4_init_28 : decode cX4_init 28 = .ok (.istore_n 1, 1) := by decide +kernel
theorem dX4_init_29 : decode cX4_init 29 = .ok (.iload_n 1, 1) := by decide +kernel
theorem dX4_init_30 : decode cX4_init 30 = .ok (.aload_n 0, 1) := by decide +kernel
theorem dX4_init_31 : decode cX4_init 31 = .ok (.getfield 9, 3) := by decide +kernel
theorem dX4_init_34 : decode cX4_init 34 = .ok (.arraylength, 1) := by decide +kernel
theorem dX4_init_35 : decode cX4_init 35 = .ok (.if_icmp .ge 16, 3) := by decide +kernel
theorem dX4_init_38 : decode cX4_init 38 = .ok (.aload_n 0, 1) := by decide +kernel
theorem dX4_init_39 : decode cX4_init 39 = .ok (.getfield 9, 3) := by decide +kernel
theorem dX4_init_42 : decode cX4_init 42 = .ok (.iload_n 1, 1) := by decide +kernel
theorem dX4_init_43 : decode cX4_init 43 = .ok (.iconst (-1), 1) := by decide +kernel
theorem dX4_init_44 : decode cX4_init 44 = .ok (.iastore, 1) := by decide +kernel
theorem dX4_init_45 : decode cX4_init 45 = .ok (.iinc 1 1, 3) := by decide +kernel
theorem dX4_init_48 : decode cX4_init 48 = .ok (.goto (-19), 3) := by decide +kernel
theorem dX4_init_51 : decode cX4_init 51 = .ok (.return_, 1) := by decide +kernel
theorem dX3_init_0 : decode cX3_init 0 = .ok (.aload_n 0, 1) := by decide +kernel
theorem dX3_init_1 : decode cX3_init 1 = .ok (.invokespecial 3, 3) := by decide +kernel
theorem dX3_init_4 : decode cX3_init 4 = .ok (.aload_n 0, 1) := by decide +kernel
theorem dX3_init_5 : decode cX3_init 5 = .ok (.new 9, 3) := by decide +kernel
theorem dX3_init_8 : decode cX3_init 8 = .ok (.dup, 1) := by decide +kernel
theorem dX3_init_9 : decode cX3_init 9 = .ok (.invokespecial 11, 3) := by decide +kernel
theorem dX3_init_12 : decode cX3_init 12 = .ok (.putfield 12, 3) := by decide +kernel
theorem dX3_init_15 : decode cX3_init 15 = .ok (.aload_n 0, 1) := by decide +kernel
theorem dX3_init_16 : decode cX3_init 16 = .ok (.bipush 30, 2) := by decide +kernel
theorem dX3_init_18 : decode cX3_init 18 = .ok (.newarray .int, 2) := by decide +kernel
theorem dX3_init_20 : decode cX3_init 20 = .ok (.putfield 18, 3) := by decide +kernel
theorem dX3_init_23 : decode cX3_init 23 = .ok (.aload_n 0, 1) := by decide +kernel
theorem dX3_init_24 : decode cX3_init 24 = .ok (.bipush 8, 2) := by decide +kernel
theorem dX3_init_26 : decode cX3_init 26 = .ok (.newarray .int, 2) := by decide +kernel
theorem dX3_init_28 : decode cX3_init 28 = .ok (.putfield 22, 3) := by decide +kernel
theorem dX3_init_31 : decode cX3_init 31 = .ok (.aload_n 0, 1) := by decide +kernel
theorem dX3_init_32 : decode cX3_init 32 = .ok (.bipush 30, 2) := by decide +kernel
theorem dX3_init_34 : decode cX3_init 34 = .ok (.newarray .int, 2) := by decide +kernel
theorem dX3_init_36 : decode cX3_init 36 = .ok (.putfield 25, 3) := by decide +kernel
theorem dX3_init_39 : decode cX3_init 39 = .ok (.aload_n 0, 1) := by decide +kernel
theorem dX3_init_40 : decode cX3_init 40 = .ok (.aload_n 1, 1) := by decide +kernel
theorem dX3_init_41 : decode cX3_init 41 = .ok (.putfield 28, 3) := by decide +kernel
theorem dX3_init_44 : decode cX3_init 44 = .ok (.return_, 1) := by decide +kernel
theorem dX1_init_0 : decode cX1_init 0 = .ok (.aload_n 0, 1) := by decide +kernel
theorem dX1_init_1 : decode cX1_init 1 = .ok (.invokespecial 3, 3) := by decide +kernel
theorem dX1_init_4 : decode cX1_init 4 = .ok (.aload_n 0, 1) := by decide +kernel
theorem dX1_init_5 : decode cX1_init 5 = .ok (.bipush 20, 2) := by decide +kernel
theorem dX1_init_7 : decode cX1_init 7 = .ok (.anewarray 9, 3) := by decide +kernel
theorem dX1_init_10 : decode cX1_init 10 = .ok (.putfield 11, 3) := by decide +kernel
theorem dX1_init_13 : decode cX1_init 13 = .ok (.aload_n 0, 1) := by decide +kernel
theorem dX1_init_14 : decode cX1_init 14 = .ok (.bipush 30, 2) := by decide +kernel
theorem dX1_init_16 : decode cX1_init 16 = .ok (.anewarray 17, 3) := by decide +kernel
theorem dX1_init_19 : decode cX1_init 19 = .ok (.putfield 19, 3) := by decide +kernel
theorem dX1_init_22 : decode cX1_init 22 = .ok (.aload_n 0, 1) := by decide +kernel
theorem dX1_init_23 : decode cX1_init 23 = .ok (.bipush 12, 2) := by decide +kernel
theorem dX1_init_25 : decode cX1_init 25 = .ok (.newarray .int, 2) := by decide +kernel
theorem dX1_init_27 : decode cX1_init 27 = .ok (.putfield 23, 3) := by decide +kernel
theorem dX1_init_30 : decode cX1_init 30 = .ok (.aload_n 0, 1) := by decide +kernel
theorem dX1_init_31 : decode cX1_init 31 = .ok (.iconst 1, 1) := by decide +kernel
theorem dX1_init_32 : decode cX1_init 32 = .ok (.putfield 27, 3) := by decide +kernel
theorem dX1_init_35 : decode cX1_init 35 = .ok (.aload_n 0, 1) := by decide +kernel
theorem dX1_init_36 : decode cX1_init 36 = .ok (.iconst 0, 1) := by decide +kernel
theorem dX1_init_37 : decode cX1_init 37 = .ok (.invokestatic 31, 3) := by decide +kernel
theorem dX1_init_40 : decode cX1_init 40 = .ok (.putfield 35, 3) := by decide +kernel
theorem dX1_init_43 : decode cX1_init 43 = .ok (.iconst 0, 1) := by decide +kernel
theorem dX1_init_44 : decode cX1_init 44 = .ok (.istore_n 1, 1) := by decide +kernel
theorem dX1_init_45 : decode cX1_init 45 = .ok (.iload_n 1, 1) := by decide +kernel
theorem dX1_init_46 : decode cX1_init 46 = .ok (.aload_n 0, 1) := by decide +kernel
theorem dX1_init_47 : decode cX1_init 47 = .ok (.getfield 11, 3) := by decide +kernel
theorem dX1_init_50 : decode cX1_init 50 = .ok (.arraylength, 1) := by decide +kernel
theorem dX1_init_51 : decode cX1_init 51 = .ok (.if_icmp .ge 22, 3) := by decide +kernel
theorem dX1_init_54 : decode cX1_init 54 = .ok (.aload_n 0, 1) := by decide +kernel
theorem dX1_init_55 : decode cX1_init 55 = .ok (.getfield 11, 3) := by decide +kernel
theorem dX1_init_58 : decode cX1_init 58 = .ok (.iload_n 1, 1) := by decide +kernel
theorem dX1_init_59 : decode cX1_init 59 = .ok (.new 9, 3) := by decide +kernel
theorem dX1_init_62 : decode cX1_init 62 = .ok (.dup, 1) := by decide +kernel
theorem dX1_init_63 : decode cX1_init 63 = .ok (.invokespecial 38, 3) := by decide +kernel
theorem dX1_init_66 : decode cX1_init 66 = .ok (.aastore, 1) := by decide +kernel
theorem dX1_init_67 : decode cX1_init 67 = .ok (.iinc 1 1, 3) := by decide +kernel
theorem dX1_init_70 : decode cX1_init 70 = .ok (.goto (-25), 3) := by decide +kernel
theorem dX1_init_73 : decode cX1_init 73 = .ok (.iconst 0, 1) := by decide +kernel
theorem dX1_init_74 : decode cX1_init 74 = .ok (.istore_n 1, 1) := by decide +kernel
theorem dX1_init_75 : decode cX1_init 75 = .ok (.iload_n 1, 1) := by decide +kernel
theorem dX1_init_76 : decode cX1_init 76 = .ok (.aload_n 0, 1) := by decide +kernel
theorem dX1_init_77 : decode cX1_init 77 = .ok (.getfield 19, 3) := by decide +kernel
theorem dX1_init_80 : decode cX1_init 80 = .ok (.arraylength, 1) := by decide +kernel
theorem dX1_init_81 : decode cX1_init 81 = .ok (.if_icmp .ge 22, 3) := by decide +kernel
theorem dX1_init_84 : decode cX1_init 84 = .ok (.aload_n 0, 1) := by decide +kernel
theorem dX1_init_85 : decode cX1_init 85 = .ok (.getfield 19, 3) := by decide +kernel
theorem dX1_init_88 : decode cX1_init 88 = .ok (.iload_n 1, 1) := by decide +kernel
theorem dX1_init_89 : decode cX1_init 89 = .ok (.new 17, 3) := by decide +kernel
theorem dX1_init_92 : decode cX1_init 92 = .ok (.dup, 1) := by decide +kernel
theorem dX1_init_93 : decode cX1_init 93 = .ok (.invokespecial 39, 3) := by decide +kernel
theorem dX1_init_96 : decode cX1_init 96 = .ok (.aastore, 1) := by decide +kernel
theorem dX1_init_97 : decode cX1_init 97 = .ok (.iinc 1 1, 3) := by decide +kernel
theorem dX1_init_100 : decode cX1_init 100 = .ok (.goto (-25), 3) := by decide +kernel
theorem dX1_init_103 : decode cX1_init 103 = .ok (.return_, 1) := by decide +kernel
theorem dX2_init_0 : decode cX2_init 0 = .ok (.aload_n 0, 1) := by decide +kernel
theorem dX2_init_1 : decode cX2_init 1 = .ok (.invokespecial 3, 3) := by decide +kernel
theorem dX2_init_4 : decode cX2_init 4 = .ok (.aload_n 0, 1) := by decide +kernel
theorem dX2_init_5 : decode cX2_init 5 = .ok (.bipush 8, 2) := by decide +kernel
theorem dX2_init_7 : decode cX2_init 7 = .ok (.newarray .int, 2) := by decide +kernel
theorem dX2_init_9 : decode cX2_init 9 = .ok (.putfield 9, 3) := by decide +kernel
theorem dX2_init_12 : decode cX2_init 12 = .ok (.aload_n 0, 1) := by decide +kernel
theorem dX2_init_13 : decode cX2_init 13 = .ok (.bipush 60, 2) := by decide +kernel
theorem dX2_init_15 : decode cX2_init 15 = .ok (.anewarray 15, 3) := by decide +kernel
theorem dX2_init_18 : decode cX2_init 18 = .ok (.putfield 17, 3) := by decide +kernel
theorem dX2_init_21 : decode cX2_init 21 = .ok (.aload_n 0, 1) := by decide +kernel
theorem dX2_init_22 : decode cX2_init 22 = .ok (.bipush 60, 2) := by decide +kernel
theorem dX2_init_24 : decode cX2_init 24 = .ok (.newarray .int, 2) := by decide +kernel
theorem dX2_init_26 : decode cX2_init 26 = .ok (.putfield 21, 3) := by decide +kernel
theorem dX2_init_29 : decode cX2_init 29 = .ok (.aload_n 0, 1) := by decide +kernel
theorem dX2_init_30 : decode cX2_init 30 = .ok (.bipush 60, 2) := by decide +kernel
theorem dX2_init_32 : decode cX2_init 32 = .ok (.newarray .int, 2) := by decide +kernel
theorem dX2_init_34 : decode cX2_init 34 = .ok (.putfield 24, 3) := by decide +kernel
theorem dX2_init_37 : decode cX2_init 37 = .ok (.aload_n 0, 1) := by decide +kernel
theorem dX2_init_38 : decode cX2_init 38 = .ok (.bipush 60, 2) := by decide +kernel
theorem dX2_init_40 : decode cX2_init 40 = .ok (.newarray .int, 2) := by decide +kernel
theorem dX2_init_42 : decode cX2_init 42 = .ok (.putfield 27, 3) := by decide +kernel
theorem dX2_init_45 : decode cX2_init 45 = .ok (.aload_n 0, 1) := by decide +kernel
theorem dX2_init_46 : decode cX2_init 46 = .ok (.aload_n 1, 1) := by decide +kernel
theorem dX2_init_47 : decode cX2_init 47 = .ok (.putfield 30, 3) := by decide +kernel
theorem dX2_init_50 : decode cX2_init 50 = .ok (.iconst 0, 1) := by decide +kernel
theorem dX2_init_51 : decode cX2_init 51 = .ok (.istore_n 2, 1) := by decide +kernel
theorem dX2_init_52 : decode cX2_init 52 = .ok (.iload_n 2, 1) := by decide +kernel
theorem dX2_init_53 : decode cX2_init 53 = .ok (.aload_n 0, 1) := by decide +kernel
theorem dX2_init_54 : decode cX2_init 54 = .ok (.getfield 17, 3) := by decide +kernel
theorem dX2_init_57 : decode cX2_init 57 = .ok (.arraylength, 1) := by decide +kernel
theorem dX2_init_58 : decode cX2_init 58 = .ok (.if_icmp .ge 22, 3) := by decide +kernel
theorem dX2_init_61 : decode cX2_init 61 = .ok (.aload_n 0, 1) := by decide +kernel
theorem dX2_init_62 : decode cX2_init 62 = .ok (.getfield 17, 3) := by decide +kernel
theorem dX2_init_65 : decode cX2_init 65 = .ok (.iload_n 2, 1) := by decide +kernel
theorem dX2_init_66 : decode cX2_init 66 = .ok (.new 15, 3) := by decide +kernel
theorem dX2_init_69 : decode cX2_init 69 = .ok (.dup, 1) := by decide +kernel
theorem dX2_init_70 : decode cX2_init 70 = .ok (.invokespecial 34, 3) := by decide +kernel
theorem dX2_init_73 : decode cX2_init 73 = .ok (.aastore, 1) := by decide +kernel
theorem dX2_init_74 : decode cX2_init 74 = .ok (.iinc 2 1, 3) := by decide +kernel
theorem dX2_init_77 : decode cX2_init 77 = .ok (.goto (-25), 3) := by decide +kernel
theorem dX2_init_80 : decode cX2_init 80 = .ok (.return_, 1) := by decide +kernel
theorem dX7_init_0 : decode cX7_init 0 = .ok (.aload_n 0, 1) := by decide +kernel
theorem dX7_init_1 : decode cX7_init 1 = .ok (.invokespecial 1, 3) := by decide +kernel
theorem dX7_init_4 : decode cX7_init 4 = .ok (.aload_n 0, 1) := by decide +kernel
theorem dX7_init_5 : decode cX7_init 5 = .ok (.new 7, 3) := by decide +kernel
theorem dX7_init_8 : decode cX7_init 8 = .ok (.dup, 1) := by decide +kernel
theorem dX7_init_9 : decode cX7_init 9 = .ok (.invokespecial 9, 3) := by decide +kernel
theorem dX7_init_12 : decode cX7_init 12 = .ok (.putfield 10, 3) := by decide +kernel
theorem dX7_init_15 : decode cX7_init 15 = .ok (.aload_n 0, 1) := by decide +kernel
theorem dX7_init_16 : decode cX7_init 16 = .ok (.new 16, 3) := by decide +kernel
theorem dX7_init_19 : decode cX7_init 19 = .ok (.dup, 1) := by decide +kernel
theorem dX7_init_20 : decode cX7_init 20 = .ok (.aload_n 0, 1) := by decide +kernel
theorem dX7_init_21 : decode cX7_init 21 = .ok (.getfield 10, 3) := by decide +kernel
theorem dX7_init_24 : decode cX7_init 24 = .ok (.invokespecial 18, 3) := by decide +kernel
theorem dX7_init_27 : decode cX7_init 27 = .ok (.putfield 21, 3) := by decide +kernel
theorem dX7_init_30 : decode cX7_init 30 = .ok (.aload_n 0, 1) := by decide +kernel
theorem dX7_init_31 : decode cX7_init 31 = .ok (.new 16, 3) := by decide +kernel
theorem dX7_init_34 : decode cX7_init 34 = .ok (.dup, 1) := by decide +kernel
theorem dX7_init_35 : decode cX7_init 35 = .ok (.aload_n 0, 1) := by decide +kernel
theorem dX7_init_36 : decode cX7_init 36 = .ok (.getfield 10, 3) := by decide +kernel
theorem dX7_init_39 : decode cX7_init 39 = .ok (.invokespecial 18, 3) := by decide +kernel
theorem dX7_init_42 : decode cX7_init 42 = .ok (.putfield 25, 3) := by decide +kernel
theorem dX7_init_45 : decode cX7_init 45 = .ok (.aload_n 0, 1) := by decide +kernel
theorem dX7_init_46 : decode cX7_init 46 = .ok (.new 28, 3) := by decide +kernel
theorem dX7_init_49 : decode cX7_init 49 = .ok (.dup, 1) := by decide +kernel
theorem dX7_init_50 : decode cX7_init 50 = .ok (.aload_n 0, 1) := by decide +kernel
theorem dX7_init_51 : decode cX7_init 51 = .ok (.getfield 25, 3) := by decide +kernel
theorem dX7_init_54 : decode cX7_init 54 = .ok (.invokespecial 30, 3) := by decide +kernel
theorem dX7_init_57 : decode cX7_init 57 = .ok (.putfield 33, 3) := by decide +kernel
theorem dX7_init_60 : decode cX7_init 60 = .ok (.return_, 1) := by decide +kernel
section PTY
variable {p : Program} {l : Launch} {e : Env} {R : Room} {s : State} {m : MethodId} {args : Array Value} {below : List Frame} {meth : Method} {c : Code} {H : Heap} {locs : List Loc} {cells slots : Nat} {Q : State → Prop}
variable {cc : ByteArray} {pc nL : Nat} {ls : Array Slot} {rest st : List Value} {D : va_G} {A : Nat → Prop} {cA : Nat → ClassId} {B Y : va_W} {H0 : Heap} {own : String} {a : Nat}
theorem pt_callp {Qi : Int32 → Prop} {a : Array Value} (hr : va_Run p l e R s m args below meth c H locs cells slots 0 0 (F0 m pc ls st) rest (va_Qi (fun r (_ : Unit) => Qi r) (fun _ _ => True) (fun _ => False) a) (fun _ => False)) (hS : va_S A H0 H locs)
    (kk : ∀ (r : Int32) (H1 : Heap) (locs1 : List Loc), Qi r → (∀ q : Nat, q < H.size → H1[q]? = H[q]?) → va_S A H0 H1 locs1 → W p l e R s m args below meth c H1 locs1 cells slots Q (F0 m (pc + 3) ls (.int r :: rest))) : W p l e R s m args below meth c H locs cells slots Q (F0 m pc ls st) :=
  va_calli hr hS (fun _ _ h => h.elim) (fun _ h => h.elim) (fun r u t H1 locs1 ht _ hq hB hz ho hS1 => kk r H1 locs1 hq (fun q h => ho q h id) hS1)
end PTY
theorem pt_geI {x : Int32} {i n : Nat} (ex : x = nI i) (hi : i ≤ n ∧ n < 2 ^ 31) (h : (Int32.ofNat n) ≤ x) : n ≤ i := by
  rw [ex] at h
  rcases Nat.lt_or_ge i n with q | q
  · exact absurd h (nI_ge q hi.2)
  · exact q
theorem pt_ltI {x : Int32} {i n : Nat} (ex : x = nI i) (hi : i ≤ n ∧ n < 2 ^ 31) (h : ¬ (Int32.ofNat n) ≤ x) : i < n := by
  rw [ex] at h
  rcases Nat.lt_or_ge i n with q | q
  · exact q
  · exact absurd (nI_le q (by omega)) h
theorem pt_updI {f : Nat → Int32} {x v : Int32} {i : Nat} (ex : x = nI i) (hf : ∀ j, j < i → f j = v) (j : Nat) (hj : j < i + 1) : i < 2 ^ 31 → upd f x.toNatClampNeg v j = v := by
  intro h
  rw [ex, nI_clamp h]
  unfold upd
  split
  · rfl
  · exact hf j (by omega)
/-! THE CONSTRUCTORS -/
def pk4 (cA : Nat → ClassId) (a : Nat) (u : Nat × Nat × Nat) : va_W := match u with
  | (x, y, z) => [(a, .inr (4, [.ref x, .ref y, .ref z, .int 0])), (x, .inl (cA 0, 20, .inl (fun _ => (-1)))), (y, .inl (cA 0, 20, .inl (fun _ => 0))), (z, .inl (cA 0, 4, .inl (fun _ => 0)))]
def pk5 (a : Nat) (u : Nat × Nat) : va_W := match u with
  | (x, y) => [(a, .inr (5, [.ref x, .ref y, .int 0, .int (-1), .int (-1), .int 0, .int 0, .int 0, .int 0])), (x, .inr (0, [.int 0, .int 0, .int 0])), (y, .inr (0, [.int 0, .int 0, .int 0]))]
def pk6 (a : Nat) (x : Nat) : va_W := [(a, .inr (6, [.ref x, .int 0, .int 0, .int 0, .int (-1), .int (-1), .int 0, .int 0, .int 0])), (x, .inr (0, [.int 0, .int 0, .int 0]))]
def pk3 (cA : Nat → ClassId) (a h : Nat) (u : Nat × Nat × Nat × Nat × Nat × Nat × Nat) : va_W := match u with
  | (s, x, y, z, f, q, t) => [(a, .inr (3, [.ref h, .ref s, .ref f, .int 0, .int 0, .int 0, .int 0, .ref q, .int 0, .ref t, .int 0])), (s, .inr (4, [.ref x, .ref y, .ref z, .int 0])), (x, .inl (cA 0, 20, .inl (fun _ => (-1)))), (y, .inl (cA 0, 20, .inl (fun _ => 0))), (z, .inl (cA 0, 4, .inl (fun _ => 0))), (f, .inl (cA 0, 30, .inl (fun _ => 0))), (q, .inl (cA 0, 8, .inl (fun _ => 0))), (t, .inl (cA 0, 30, .inl (fun _ => 0)))]
theorem pt_kD1 {a sz : Nat} {e : va_E} : va_D (pt_KA a sz) (([] : va_W) ++ [(a, e)]) := by
  refine ⟨fun i j p q hi hj _ => ?_, fun k q hk => ?_⟩
  · have h1 : i < 1 := (List.getElem?_eq_some_iff.mp hi).1
    have h2 : j < 1 := (List.getElem?_eq_some_iff.mp hj).1
    omega
  · have h1 : k < 1 := (List.getElem?_eq_some_iff.mp hk).1
    rw [show k = 0 by omega] at hk
    cases hk
    exact Or.inl rfl
/-- an int array's contents, place by place -/
theorem pt_xfun {D : va_G} {cA : Nat → ClassId} {B Y Y' : va_W} {H : Heap} (hP : va_P D pt_cl (B ++ Y) H) (i : Nat) {a n : Nat} {f g : Nat → Int32} (hy : Y[i]? = some (a, .inl (cA 0, n, .inl f))) (h : ∀ j, j < n → f j = g j) (hY : Y.set i (a, .inl (cA 0, n, .inl g)) = Y') : va_P D pt_cl (B ++ Y') H := by
  rw [← hY, ← pt_xset]
  intro k q hk
  by_cases e : k = B.length + i
  · subst e
    have hl := (List.getElem?_eq_some_iff.mp (pt_xat (B := B) hy)).1
    rw [List.getElem?_set_self hl] at hk
    cases hk
    have h1 : H[a]? = some (vp_cell (cA 0) (n, .inl f)) := hP _ _ (pt_xat (B := B) hy)
    show H[a]? = some (vp_cell (cA 0) (n, .inl g))
    rw [h1, pt_ffun h]
  · rw [List.getElem?_set_ne (Ne.symm e)] at hk
    exact hP k q hk
/-- likewise of an array of references -/
theorem pt_xfunq {D : va_G} {cB : ClassId} {B Y Y' : va_W} {H : Heap} (hP : va_P D pt_cl (B ++ Y) H) (i : Nat) {a n : Nat} {f g : Nat → Option Nat} (hy : Y[i]? = some (a, .inl (cB, n, .inr (.inr (.inr (.inr f)))))) (h : ∀ j, j < n → f j = g j) (hY : Y.set i (a, .inl (cB, n, .inr (.inr (.inr (.inr g))))) = Y') : va_P D pt_cl (B ++ Y') H := by
  rw [← hY, ← pt_xset]
  intro k q hk
  by_cases e : k = B.length + i
  · subst e
    have hl := (List.getElem?_eq_some_iff.mp (pt_xat (B := B) hy)).1
    rw [List.getElem?_set_self hl] at hk
    cases hk
    have h1 : H[a]? = some (vp_cell cB (n, .inr (.inr (.inr (.inr f))))) := hP _ _ (pt_xat (B := B) hy)
    show H[a]? = some (vp_cell cB (n, .inr (.inr (.inr (.inr g)))))
    rw [h1, vp_cell_q, vp_cell_q]
    unfold arrV
    congr 2
    apply Array.ext (by simp)
    intro i h1 h2
    have h3 : i < n := by simpa using h1
    simp [h i h3]
  · rw [List.getElem?_set_ne (Ne.symm e)] at hk
    exact hP k q hk
/-- the addresses stay when contents do not -/
theorem pt_xsetD {A : Nat → Prop} {B Y Y' : va_W} (hD : va_D A (B ++ Y)) (i : Nat) {a : Nat} {e e' : va_E} (hy : Y[i]? = some (a, e)) (hY : Y.set i (a, e') = Y') : va_D A (B ++ Y') := by
  rw [← hY, ← pt_xset]
  exact hD.set (pt_xat hy)
theorem pt_runPN {p : Program} {l : Launch} {e : Env} {R : Room} {s : State} {m : MethodId} {args : Array Value} {below : List Frame} {meth : Method} {c : Code} {H : Heap} {locs : List Loc} {cells slots : Nat} {cc : ByteArray} {pc nL : Nat} {ls : Array Slot} {rest st : List Value} {D : va_G} {cA : Nat → ClassId} {own : String} (F : pt_F p m c cc nL s args own D cA) {As : List Value} {y : MethodName} {bytes : ByteArray} {maxL index n : Nat} {ret : Option FieldType} {rm : Room} {PU : State → Prop} {Qc : Array Value → State → Outcome → State → Prop} {free : Addr → Prop} {mc ms : Nat} {host : String}
    (hM : Met l y (Cond.code y bytes maxL ret :: lw_all) rm (va_Pc As PU) Qc mc ms free) (hbl : FrameBlind (va_Pc As PU)) (hp : ∀ U : State, U.heap = H → s.WarmedH U.vm → PU U) (h1 : Cond.code y bytes maxL ret ∈ lw_all) (h2 : Cond.methodLinkNest own index y host ∈ lw_all) (h5 : Cond.initialized y.cls ∈ lw_all) (h3 : Cond.static y ∈ lw_all) (hd : y.cls ≠ "java/lang/invoke/MethodHandle" ∧ y.cls ≠ "java/lang/invoke/VarHandle" ∧ (parseMethodDescriptor y.desc).map (fun d => d.parameters.length) = some n) (hrm : rm.cells = mc ∧ rm.slots = ms ∧ rm.frames + 1 ≤ R.frames ∧ 8 + (maxL + 11) + rm.locals ≤ R.locals)
    (hn : As.length = n) (hsz : ls.size = nL) (hst : st = As.reverse ++ rest) (hW : (rest.map fun v => v.category).sum ≤ 8) (hdg : decode cc pc = .ok (.invokestatic index, 3)) (hcs : cells + mc ≤ R.cells ∧ slots + ms ≤ R.slots) :
    va_Run p l e R s m args below meth c H locs cells slots mc ms (F0 m pc ls st) rest (Qc As.toArray) free :=
  va_runSN (As := As) (rest := rest) F.1 hM ⟨⟨⟨hrm.1, hrm.2.1, hrm.2.2.1, hrm.2.2.2, pt_kpay F h1, List.mem_cons_self⟩, F.1.2.2.2.2 _ h1, F.1.2.2.2.2 _ h5, ⟨hd.1, hd.2.1⟩, pt_kn hd.2.2, F.1.2.2.2.2 _ h2⟩, F.1.2.2.2.2 _ h3, trivial⟩ ⟨hbl, fun U hU hW => ⟨rfl, hp U hU hW⟩⟩ rfl hn hsz hst (lv_room hW) hdg hcs
set_option maxHeartbeats 4000000 in
set_option maxRecDepth 100000 in
theorem mtP_setOf (l : Launch) (p1 : Int32) : Met l yX7_setOf (Cond.code yX7_setOf cX7_setOf 1 (some .int) :: lw_all) ({ frames := 0, cells := 0, slots := 0, locals := 0 } : Room) (va_Pc [.int p1] (fun _ => True)) (va_Qi (fun r (_ : Unit) => r = 1 <<< (p1 &&& 31)) (fun _ _ => True) (fun _ => False)) 0 0 (fun _ => False) := by
  refine Met.ofW (cc := cX7_setOf) (maxL := 1) (ret := (some .int)) (by decide) rfl ?_
  intro p e s m args below meth c s₁ B hml hv
  obtain ⟨rfl, -⟩ := hv
  have hx := B.exec
  have hb := B.bytes
  have hr := B.returns
  have hlocks := B.notSynchronized
  have hl := lv_entry ([.int p1]) (n := 1) (Nat.le_of_ble_eq_true rfl)
  rw [lg_entry_eq]
  generalize (lg_sl ([.int p1]) ++ List.replicate (1 - (lg_sl ([.int p1])).length) Slot.unset).toArray = ls at hl ⊢
  have hl : lv_has ls 1 [(0, .int p1)] := hl
  refine lv_iconst (v := 1) hx hb dX7_setOf_0 (by decide) ?_
  refine lv_iload_n hx hb dX7_setOf_1 rfl (lv_at hl 0 rfl) ?_
  refine lv_ishl hx hb dX7_setOf_2 ?_
  have hS : va_S (fun _ => False) s.heap s.heap [] := va_S.rf
  exact W.iret (v := 1 <<< (p1 &&& 31)) hx hb hr (fun t ht hW => ⟨⟨_, (), rfl, rfl, trivial⟩, hS.F ht⟩) (fun q hq => absurd hq List.not_mem_nil) dX7_setOf_3
set_option maxHeartbeats 4000000 in
set_option maxRecDepth 100000 in
theorem mtX0_init (l : Launch) (a : Nat) : Met l yX0_init (Cond.code yX0_init cX0_init 1 none :: lw_all) ({ frames := 1, cells := 0, slots := 0, locals := 12 } : Room) (va_Pc [.ref a] (fun _ => True)) (va_Qv (fun _ : Unit => True) (fun _ _ => True) (fun _ => False)) 0 0 (fun _ => False) := by
  refine Met.ofW (cc := cX0_init) (maxL := 1) (ret := none) (by decide) rfl ?_
  intro p e s m args below meth c s₁ B hml hv
  obtain ⟨rfl, -⟩ := hv
  have hx := B.exec
  have hb := B.bytes
  have hr := B.returns
  have hts0 := atoms_spec (ws := (Cond.code yX0_init cX0_init 1 none :: lw_all)) B.pre
  have hown : s.vm.findClass RX0 = some m.cls := findClass_of_methodNamed B.named
  have hlocks := B.notSynchronized
  have hl := lv_entry ([.ref a]) (n := 1) (Nat.le_of_ble_eq_true rfl)
  rw [lg_entry_eq]
  generalize (lg_sl ([.ref a]) ++ List.replicate (1 - (lg_sl ([.ref a])).length) Slot.unset).toArray = ls at hl ⊢
  have hl : lv_has ls 1 [(0, .ref a)] := hl
  refine lv_aload_n hx hb dX0_init_0 rfl (lv_at hl 0 rfl) ?_
  refine W.objInit hx hb hown (hts0 _ (List.mem_cons_of_mem _ kw_114)) (hts0 _ (List.mem_cons_of_mem _ kw_89)) (hts0 _ (List.mem_cons_of_mem _ kw_90)) rfl (by rw [hml]; exact hl.1) rfl dX0_init_1 (Nat.le_of_ble_eq_true rfl) (Nat.le_of_ble_eq_true rfl) ?_
  refine W.eq (g2 := F0 m 4 ls []) rfl ?_
  have hS : va_S (fun _ => False) s.heap s.heap [] := va_S.rf
  exact W.vret hx hb hr (fun t ht hW => ⟨⟨(), rfl, trivial, trivial⟩, hS.F ht⟩) (fun q hq => absurd hq List.not_mem_nil) dX0_init_4
set_option maxHeartbeats 8000000 in
set_option maxRecDepth 100000 in
theorem mtX5_init (l : Launch) (D : va_G) (cA : Nat → ClassId) (sz a : Nat) : Met l yX5_init (Cond.code yX5_init cX5_init 1 none :: lw_all) ({ frames := 2, cells := 2, slots := 6, locals := 32 } : Room) (va_Pc [.ref a] (pt_KP D cA sz (a, .inr (5, [.null, .null, .int 0, .int 0, .int 0, .int 0, .int 0, .int 0, .int 0])))) (va_Qv (fun _ : Nat × Nat => True) (pt_KB D a sz (pk5 a)) (pt_KA a sz)) 2 6 (pt_KA a sz) := by
  refine Met.ofW (cc := cX5_init) (maxL := 1) (ret := none) (by decide) rfl ?_
  intro p e s m args below meth c s₁ B hml hv
  obtain ⟨rfl, hsz, hP, hK⟩ := hv
  have hx := B.exec
  have hb := B.bytes
  have hr := B.returns
  have hts0 := atoms_spec (ws := (Cond.code yX5_init cX5_init 1 none :: lw_all)) B.pre
  have hown : s.vm.findClass RX5 = some m.cls := findClass_of_methodNamed B.named
  have hlocks := B.notSynchronized
  have hin : meth.name = "<init>" := (name_of_methodNamed B.named B.method).1
  subst hsz
  have F : pt_F p m c cX5_init 1 s _ RX5 D cA := ⟨⟨hx, hb, hml, hown, fun w h => hts0 w (List.mem_cons_of_mem _ h)⟩, hK⟩
  have s_cb : 2 ≤ (headSpec (Cond.code yX5_init cX5_init 1 none :: lw_all) ({ frames := 2, cells := 2, slots := 6, locals := 32 } : Room)).room.cells := Nat.le_of_ble_eq_true rfl
  have s_sb : 6 ≤ (headSpec (Cond.code yX5_init cX5_init 1 none :: lw_all) ({ frames := 2, cells := 2, slots := 6, locals := 32 } : Room)).room.slots := Nat.le_of_ble_eq_true rfl
  have hS : va_S (pt_KA a s.heap.size) s.heap s.heap [] := va_S.rf
  have hA : ∀ q, s.heap.size ≤ q → pt_KA a s.heap.size q := fun q h => Or.inr h
  replace hP : va_P D pt_cl (([] : va_W) ++ [(a, .inr (5, [.null, .null, .int 0, .int 0, .int 0, .int 0, .int 0, .int 0, .int 0]))]) s.heap := hP
  have hD : va_D (pt_KA a s.heap.size) (([] : va_W) ++ [(a, .inr (5, [.null, .null, .int 0, .int 0, .int 0, .int 0, .int 0, .int 0, .int 0]))]) := pt_kD1
  have hl := lv_entry ([.ref a]) (n := 1) (Nat.le_of_ble_eq_true rfl)
  rw [lg_entry_eq]
  generalize (lg_sl ([.ref a]) ++ List.replicate (1 - (lg_sl ([.ref a])).length) Slot.unset).toArray = ls at hl ⊢
  have hl : lv_has ls 1 [(0, .ref a)] := hl
  refine lv_aload_n hx hb dX5_init_0 rfl (lv_at hl 0 rfl) ?_
  refine W.objInit hx hb hown (F.1.2.2.2.2 _ kw_108) (F.1.2.2.2.2 _ kw_89) (F.1.2.2.2.2 _ kw_90) rfl (by rw [hml]; exact hl.1) rfl dX5_init_1 (Nat.le_of_ble_eq_true rfl) (Nat.le_of_ble_eq_true rfl) ?_
  refine W.eq (g2 := F0 m 4 ls []) rfl ?_
  refine lv_aload_n hx hb dX5_init_4 rfl (lv_at hl 0 rfl) ?_
  refine pt_ynew (ci := 0) (fs := [.int 0, .int 0, .int 0]) F hP hD hS hA inX0 tyX0 tyX0_ok kw_109 kw_110 kw_55 rfl (fun j hj => by rcases (show j = 0 ∨ j = 1 ∨ j = 2 by omega) with rfl | rfl | rfl <;> rfl) (Nat.le_trans (by omega) s_cb) (Nat.le_trans (by omega) s_sb) dX5_init_5 (fun q5 H hP hD hS => ?_)
  replace hP : va_P D pt_cl (([] : va_W) ++ [(a, .inr (5, [.null, .null, .int 0, .int 0, .int 0, .int 0, .int 0, .int 0, .int 0])), (q5, .inr (0, [.int 0, .int 0, .int 0]))]) H := hP
  replace hD : va_D (pt_KA a s.heap.size) (([] : va_W) ++ [(a, .inr (5, [.null, .null, .int 0, .int 0, .int 0, .int 0, .int 0, .int 0, .int 0])), (q5, .inr (0, [.int 0, .int 0, .int 0]))]) := hD
  refine W.widen (k := 1) (n := 3) (by omega) (by omega) ?_
  refine lv_dup hx hb dX5_init_8 rfl ?_
  refine pt_kcall0 (pt_krun (n := 0) (As := []) (rest := [.ref q5, .ref a]) F (mtX0_init l q5) (fun _ _ _ _ h => h) (fun _ _ _ => trivial) kw_113 (Or.inr ⟨_, kw_111⟩) kw_55 kw_112 rfl ⟨by decide, by decide, by decide +kernel⟩ ⟨rfl, rfl, Nat.le_of_ble_eq_true rfl, Nat.le_of_ble_eq_true rfl⟩ rfl hl.1 rfl (Nat.le_of_ble_eq_true rfl) dX5_init_9 ⟨(Nat.le_trans (by omega) s_cb), (Nat.le_trans (by omega) s_sb)⟩) hP hS (fun H locs hP hS => ?_)
  refine pt_yputF (Y' := [(a, .inr (5, [.ref q5, .null, .int 0, .int 0, .int 0, .int 0, .int 0, .int 0, .int 0])), (q5, .inr (0, [.int 0, .int 0, .int 0]))]) F hP hD hS hin 0 rfl inX5 tyX5 tyX5_ok nmX5 rfl 0 (by decide) kw_129 rfl rfl rfl rfl rfl (Nat.le_of_ble_eq_true rfl) rfl dX5_init_12 (fun H locs hP hD hS => ?_)
  refine lv_aload_n hx hb dX5_init_15 rfl (lv_at hl 0 rfl) ?_
  refine pt_ynew (ci := 0) (fs := [.int 0, .int 0, .int 0]) F hP hD hS hA inX0 tyX0 tyX0_ok kw_109 kw_110 kw_55 rfl (fun j hj => by rcases (show j = 0 ∨ j = 1 ∨ j = 2 by omega) with rfl | rfl | rfl <;> rfl) (Nat.le_trans (by omega) s_cb) (Nat.le_trans (by omega) s_sb) dX5_init_16 (fun q16 H hP hD hS => ?_)
  replace hP : va_P D pt_cl (([] : va_W) ++ [(a, .inr (5, [.ref q5, .null, .int 0, .int 0, .int 0, .int 0, .int 0, .int 0, .int 0])), (q5, .inr (0, [.int 0, .int 0, .int 0])), (q16, .inr (0, [.int 0, .int 0, .int 0]))]) H := hP
  replace hD : va_D (pt_KA a s.heap.size) (([] : va_W) ++ [(a, .inr (5, [.ref q5, .null, .int 0, .int 0, .int 0, .int 0, .int 0, .int 0, .int 0])), (q5, .inr (0, [.int 0, .int 0, .int 0])), (q16, .inr (0, [.int 0, .int 0, .int 0]))]) := hD
  refine W.widen (k := 2) (n := 6) (by omega) (by omega) ?_
  refine lv_dup hx hb dX5_init_19 rfl ?_
  refine pt_kcall0 (pt_krun (n := 0) (As := []) (rest := [.ref q16, .ref a]) F (mtX0_init l q16) (fun _ _ _ _ h => h) (fun _ _ _ => trivial) kw_113 (Or.inr ⟨_, kw_111⟩) kw_55 kw_112 rfl ⟨by decide, by decide, by decide +kernel⟩ ⟨rfl, rfl, Nat.le_of_ble_eq_true rfl, Nat.le_of_ble_eq_true rfl⟩ rfl hl.1 rfl (Nat.le_of_ble_eq_true rfl) dX5_init_20 ⟨(Nat.le_trans (by omega) s_cb), (Nat.le_trans (by omega) s_sb)⟩) hP hS (fun H locs hP hS => ?_)
  refine pt_yputF (Y' := [(a, .inr (5, [.ref q5, .ref q16, .int 0, .int 0, .int 0, .int 0, .int 0, .int 0, .int 0])), (q5, .inr (0, [.int 0, .int 0, .int 0])), (q16, .inr (0, [.int 0, .int 0, .int 0]))]) F hP hD hS hin 0 rfl inX5 tyX5 tyX5_ok nmX5 rfl 1 (by decide) kw_132 rfl rfl rfl rfl rfl (Nat.le_of_ble_eq_true rfl) rfl dX5_init_23 (fun H locs hP hD hS => ?_)
  refine lv_aload_n hx hb dX5_init_26 rfl (lv_at hl 0 rfl) ?_
  refine lv_iconst (v := 0) hx hb dX5_init_27 (by decide) ?_
  refine pt_yput (Y' := [(a, .inr (5, [.ref q5, .ref q16, .int 0, .int 0, .int 0, .int 0, .int 0, .int 0, .int 0])), (q5, .inr (0, [.int 0, .int 0, .int 0])), (q16, .inr (0, [.int 0, .int 0, .int 0]))]) F hP hD hS 0 rfl inX5 tyX5 tyX5_ok nmX5 rfl 2 (by decide) kw_135 rfl rfl rfl rfl (Nat.le_of_ble_eq_true rfl) rfl dX5_init_28 (fun H locs hP hD hS => ?_)
  refine lv_aload_n hx hb dX5_init_31 rfl (lv_at hl 0 rfl) ?_
  refine lv_iconst (v := (-1)) hx hb dX5_init_32 (by decide) ?_
  refine pt_yput (Y' := [(a, .inr (5, [.ref q5, .ref q16, .int 0, .int (-1), .int 0, .int 0, .int 0, .int 0, .int 0])), (q5, .inr (0, [.int 0, .int 0, .int 0])), (q16, .inr (0, [.int 0, .int 0, .int 0]))]) F hP hD hS 0 rfl inX5 tyX5 tyX5_ok nmX5 rfl 3 (by decide) kw_139 rfl rfl rfl rfl (Nat.le_of_ble_eq_true rfl) rfl dX5_init_33 (fun H locs hP hD hS => ?_)
  refine lv_aload_n hx hb dX5_init_36 rfl (lv_at hl 0 rfl) ?_
  refine lv_iconst (v := (-1)) hx hb dX5_init_37 (by decide) ?_
  refine pt_yput (Y' := [(a, .inr (5, [.ref q5, .ref q16, .int 0, .int (-1), .int (-1), .int 0, .int 0, .int 0, .int 0])), (q5, .inr (0, [.int 0, .int 0, .int 0])), (q16, .inr (0, [.int 0, .int 0, .int 0]))]) F hP hD hS 0 rfl inX5 tyX5 tyX5_ok nmX5 rfl 4 (by decide) kw_143 rfl rfl rfl rfl (Nat.le_of_ble_eq_true rfl) rfl dX5_init_38 (fun H locs hP hD hS => ?_)
  exact W.vret hx hb hr (fun t ht hW => ⟨⟨(q5, q16), rfl, trivial, by rw [ht]; exact hP, hD⟩, hS.F ht⟩) hS.2.2 dX5_init_41
set_option maxHeartbeats 8000000 in
set_option maxRecDepth 100000 in
theorem mtX6_init (l : Launch) (D : va_G) (cA : Nat → ClassId) (sz a : Nat) : Met l yX6_init (Cond.code yX6_init cX6_init 1 none :: lw_all) ({ frames := 2, cells := 1, slots := 3, locals := 32 } : Room) (va_Pc [.ref a] (pt_KP D cA sz (a, .inr (6, [.null, .int 0, .int 0, .int 0, .int 0, .int 0, .int 0, .int 0, .int 0])))) (va_Qv (fun _ : Nat => True) (pt_KB D a sz (pk6 a)) (pt_KA a sz)) 1 3 (pt_KA a sz) := by
  refine Met.ofW (cc := cX6_init) (maxL := 1) (ret := none) (by decide) rfl ?_
  intro p e s m args below meth c s₁ B hml hv
  obtain ⟨rfl, hsz, hP, hK⟩ := hv
  have hx := B.exec
  have hb := B.bytes
  have hr := B.returns
  have hts0 := atoms_spec (ws := (Cond.code yX6_init cX6_init 1 none :: lw_all)) B.pre
  have hown : s.vm.findClass RX6 = some m.cls := findClass_of_methodNamed B.named
  have hlocks := B.notSynchronized
  have hin : meth.name = "<init>" := (name_of_methodNamed B.named B.method).1
  subst hsz
  have F : pt_F p m c cX6_init 1 s _ RX6 D cA := ⟨⟨hx, hb, hml, hown, fun w h => hts0 w (List.mem_cons_of_mem _ h)⟩, hK⟩
  have s_cb : 1 ≤ (headSpec (Cond.code yX6_init cX6_init 1 none :: lw_all) ({ frames := 2, cells := 1, slots := 3, locals := 32 } : Room)).room.cells := Nat.le_of_ble_eq_true rfl
  have s_sb : 3 ≤ (headSpec (Cond.code yX6_init cX6_init 1 none :: lw_all) ({ frames := 2, cells := 1, slots := 3, locals := 32 } : Room)).room.slots := Nat.le_of_ble_eq_true rfl
  have hS : va_S (pt_KA a s.heap.size) s.heap s.heap [] := va_S.rf
  have hA : ∀ q, s.heap.size ≤ q → pt_KA a s.heap.size q := fun q h => Or.inr h
  replace hP : va_P D pt_cl (([] : va_W) ++ [(a, .inr (6, [.null, .int 0, .int 0, .int 0, .int 0, .int 0, .int 0, .int 0, .int 0]))]) s.heap := hP
  have hD : va_D (pt_KA a s.heap.size) (([] : va_W) ++ [(a, .inr (6, [.null, .int 0, .int 0, .int 0, .int 0, .int 0, .int 0, .int 0, .int 0]))]) := pt_kD1
  have hl := lv_entry ([.ref a]) (n := 1) (Nat.le_of_ble_eq_true rfl)
  rw [lg_entry_eq]
  generalize (lg_sl ([.ref a]) ++ List.replicate (1 - (lg_sl ([.ref a])).length) Slot.unset).toArray = ls at hl ⊢
  have hl : lv_has ls 1 [(0, .ref a)] := hl
  refine lv_aload_n hx hb dX6_init_0 rfl (lv_at hl 0 rfl) ?_
  refine W.objInit hx hb hown (F.1.2.2.2.2 _ kw_179) (F.1.2.2.2.2 _ kw_89) (F.1.2.2.2.2 _ kw_90) rfl (by rw [hml]; exact hl.1) rfl dX6_init_1 (Nat.le_of_ble_eq_true rfl) (Nat.le_of_ble_eq_true rfl) ?_
  refine W.eq (g2 := F0 m 4 ls []) rfl ?_
  refine lv_aload_n hx hb dX6_init_4 rfl (lv_at hl 0 rfl) ?_
  refine pt_ynew (ci := 0) (fs := [.int 0, .int 0, .int 0]) F hP hD hS hA inX0 tyX0 tyX0_ok kw_180 kw_110 kw_55 rfl (fun j hj => by rcases (show j = 0 ∨ j = 1 ∨ j = 2 by omega) with rfl | rfl | rfl <;> rfl) (Nat.le_trans (by omega) s_cb) (Nat.le_trans (by omega) s_sb) dX6_init_5 (fun q5 H hP hD hS => ?_)
  replace hP : va_P D pt_cl (([] : va_W) ++ [(a, .inr (6, [.null, .int 0, .int 0, .int 0, .int 0, .int 0, .int 0, .int 0, .int 0])), (q5, .inr (0, [.int 0, .int 0, .int 0]))]) H := hP
  replace hD : va_D (pt_KA a s.heap.size) (([] : va_W) ++ [(a, .inr (6, [.null, .int 0, .int 0, .int 0, .int 0, .int 0, .int 0, .int 0, .int 0])), (q5, .inr (0, [.int 0, .int 0, .int 0]))]) := hD
  refine W.widen (k := 1) (n := 3) (by omega) (by omega) ?_
  refine lv_dup hx hb dX6_init_8 rfl ?_
  refine pt_kcall0 (pt_krun (n := 0) (As := []) (rest := [.ref q5, .ref a]) F (mtX0_init l q5) (fun _ _ _ _ h => h) (fun _ _ _ => trivial) kw_113 (Or.inr ⟨_, kw_181⟩) kw_55 kw_112 rfl ⟨by decide, by decide, by decide +kernel⟩ ⟨rfl, rfl, Nat.le_of_ble_eq_true rfl, Nat.le_of_ble_eq_true rfl⟩ rfl hl.1 rfl (Nat.le_of_ble_eq_true rfl) dX6_init_9 ⟨(Nat.le_trans (by omega) s_cb), (Nat.le_trans (by omega) s_sb)⟩) hP hS (fun H locs hP hS => ?_)
  refine pt_yputF (Y' := [(a, .inr (6, [.ref q5, .int 0, .int 0, .int 0, .int 0, .int 0, .int 0, .int 0, .int 0])), (q5, .inr (0, [.int 0, .int 0, .int 0]))]) F hP hD hS hin 0 rfl inX6 tyX6 tyX6_ok nmX6 rfl 0 (by decide) kw_182 rfl rfl rfl rfl rfl (Nat.le_of_ble_eq_true rfl) rfl dX6_init_12 (fun H locs hP hD hS => ?_)
  refine lv_aload_n hx hb dX6_init_15 rfl (lv_at hl 0 rfl) ?_
  refine lv_iconst (v := (-1)) hx hb dX6_init_16 (by decide) ?_
  refine pt_yput (Y' := [(a, .inr (6, [.ref q5, .int 0, .int 0, .int 0, .int (-1), .int 0, .int 0, .int 0, .int 0])), (q5, .inr (0, [.int 0, .int 0, .int 0]))]) F hP hD hS 0 rfl inX6 tyX6 tyX6_ok nmX6 rfl 4 (by decide) kw_191 rfl rfl rfl rfl (Nat.le_of_ble_eq_true rfl) rfl dX6_init_17 (fun H locs hP hD hS => ?_)
  refine lv_aload_n hx hb dX6_init_20 rfl (lv_at hl 0 rfl) ?_
  refine lv_iconst (v := (-1)) hx hb dX6_init_21 (by decide) ?_
  refine pt_yput (Y' := [(a, .inr (6, [.ref q5, .int 0, .int 0, .int 0, .int (-1), .int (-1), .int 0, .int 0, .int 0])), (q5, .inr (0, [.int 0, .int 0, .int 0]))]) F hP hD hS 0 rfl inX6 tyX6 tyX6_ok nmX6 rfl 5 (by decide) kw_194 rfl rfl rfl rfl (Nat.le_of_ble_eq_true rfl) rfl dX6_init_22 (fun H locs hP hD hS => ?_)
  refine lv_aload_n hx hb dX6_init_25 rfl (lv_at hl 0 rfl) ?_
  refine lv_iconst (v := 0) hx hb dX6_init_26 (by decide) ?_
  refine pt_yput (Y' := [(a, .inr (6, [.ref q5, .int 0, .int 0, .int 0, .int (-1), .int (-1), .int 0, .int 0, .int 0])), (q5, .inr (0, [.int 0, .int 0, .int 0]))]) F hP hD hS 0 rfl inX6 tyX6 tyX6_ok nmX6 rfl 6 (by decide) kw_197 rfl rfl rfl rfl (Nat.le_of_ble_eq_true rfl) rfl dX6_init_27 (fun H locs hP hD hS => ?_)
  exact W.vret hx hb hr (fun t ht hW => ⟨⟨q5, rfl, trivial, by rw [ht]; exact hP, hD⟩, hS.F ht⟩) hS.2.2 dX6_init_30
set_option maxHeartbeats 8000000 in
set_option maxRecDepth 100000 in
theorem mtX4_init (l : Launch) (D : va_G) (cA : Nat → ClassId) (sz a : Nat) : Met l yX4_init (Cond.code yX4_init cX4_init 2 none :: lw_all) ({ frames := 1, cells := 3, slots := 44, locals := 12 } : Room) (va_Pc [.ref a] (pt_KP D cA sz (a, .inr (4, [.null, .null, .null, .int 0])))) (va_Qv (fun _ : Nat × Nat × Nat => True) (pt_KB D a sz (pk4 cA a)) (pt_KA a sz)) 3 44 (pt_KA a sz) := by
  refine Met.ofW (cc := cX4_init) (maxL := 2) (ret := none) (by decide) rfl ?_
  intro p e s m args below meth c s₁ B hml hv
  obtain ⟨rfl, hsz, hP, hK⟩ := hv
  have hx := B.exec
  have hb := B.bytes
  have hr := B.returns
  have hts0 := atoms_spec (ws := (Cond.code yX4_init cX4_init 2 none :: lw_all)) B.pre
  have hown : s.vm.findClass RX4 = some m.cls := findClass_of_methodNamed B.named
  have hlocks := B.notSynchronized
  have hin : meth.name = "<init>" := (name_of_methodNamed B.named B.method).1
  subst hsz
  have F : pt_F p m c cX4_init 2 s _ RX4 D cA := ⟨⟨hx, hb, hml, hown, fun w h => hts0 w (List.mem_cons_of_mem _ h)⟩, hK⟩
  have s_cb : 3 ≤ (headSpec (Cond.code yX4_init cX4_init 2 none :: lw_all) ({ frames := 1, cells := 3, slots := 44, locals := 12 } : Room)).room.cells := Nat.le_of_ble_eq_true rfl
  have s_sb : 44 ≤ (headSpec (Cond.code yX4_init cX4_init 2 none :: lw_all) ({ frames := 1, cells := 3, slots := 44, locals := 12 } : Room)).room.slots := Nat.le_of_ble_eq_true rfl
  have hS : va_S (pt_KA a s.heap.size) s.heap s.heap [] := va_S.rf
  have hA : ∀ q, s.heap.size ≤ q → pt_KA a s.heap.size q := fun q h => Or.inr h
  replace hP : va_P D pt_cl (([] : va_W) ++ [(a, .inr (4, [.null, .null, .null, .int 0]))]) s.heap := hP
  have hD : va_D (pt_KA a s.heap.size) (([] : va_W) ++ [(a, .inr (4, [.null, .null, .null, .int 0]))]) := pt_kD1
  have hl := lv_entry ([.ref a]) (n := 2) (Nat.le_of_ble_eq_true rfl)
  rw [lg_entry_eq]
  generalize (lg_sl ([.ref a]) ++ List.replicate (2 - (lg_sl ([.ref a])).length) Slot.unset).toArray = ls at hl ⊢
  have hl : lv_has ls 2 [(0, .ref a)] := hl
  refine lv_aload_n hx hb dX4_init_0 rfl (lv_at hl 0 rfl) ?_
  refine W.objInit hx hb hown (F.1.2.2.2.2 _ kw_266) (F.1.2.2.2.2 _ kw_89) (F.1.2.2.2.2 _ kw_90) rfl (by rw [hml]; exact hl.1) rfl dX4_init_1 (Nat.le_of_ble_eq_true rfl) (Nat.le_of_ble_eq_true rfl) ?_
  refine W.eq (g2 := F0 m 4 ls []) rfl ?_
  refine lv_aload_n hx hb dX4_init_4 rfl (lv_at hl 0 rfl) ?_
  refine lv_bipush (v := 20) hx hb dX4_init_5 (by decide) ?_
  refine pt_xnew (N := 20) F hP hD hS hA kw_128 (by decide) (by decide) (by decide) (Nat.le_trans (by omega) s_cb) (Nat.le_trans (by omega) s_sb) dX4_init_7 (fun q7 H hP hD hS => ?_)
  replace hP : va_P D pt_cl (([] : va_W) ++ [(a, .inr (4, [.null, .null, .null, .int 0])), (q7, .inl (cA 0, 20, .inl (fun _ => 0)))]) H := hP
  replace hD : va_D (pt_KA a s.heap.size) (([] : va_W) ++ [(a, .inr (4, [.null, .null, .null, .int 0])), (q7, .inl (cA 0, 20, .inl (fun _ => 0)))]) := hD
  refine W.widen (k := 1) (n := 20) (by omega) (by omega) ?_
  refine pt_yputF (Y' := [(a, .inr (4, [.ref q7, .null, .null, .int 0])), (q7, .inl (cA 0, 20, .inl (fun _ => 0)))]) F hP hD hS hin 0 rfl inX4 tyX4 tyX4_ok nmX4 rfl 0 (by decide) kw_267 rfl rfl rfl rfl rfl (Nat.le_of_ble_eq_true rfl) rfl dX4_init_9 (fun H locs hP hD hS => ?_)
  refine lv_aload_n hx hb dX4_init_12 rfl (lv_at hl 0 rfl) ?_
  refine lv_bipush (v := 20) hx hb dX4_init_13 (by decide) ?_
  refine pt_xnew (N := 20) F hP hD hS hA kw_128 (by decide) (by decide) (by decide) (Nat.le_trans (by omega) s_cb) (Nat.le_trans (by omega) s_sb) dX4_init_15 (fun q15 H hP hD hS => ?_)
  replace hP : va_P D pt_cl (([] : va_W) ++ [(a, .inr (4, [.ref q7, .null, .null, .int 0])), (q7, .inl (cA 0, 20, .inl (fun _ => 0))), (q15, .inl (cA 0, 20, .inl (fun _ => 0)))]) H := hP
  replace hD : va_D (pt_KA a s.heap.size) (([] : va_W) ++ [(a, .inr (4, [.ref q7, .null, .null, .int 0])), (q7, .inl (cA 0, 20, .inl (fun _ => 0))), (q15, .inl (cA 0, 20, .inl (fun _ => 0)))]) := hD
  refine W.widen (k := 2) (n := 40) (by omega) (by omega) ?_
  refine pt_yputF (Y' := [(a, .inr (4, [.ref q7, .ref q15, .null, .int 0])), (q7, .inl (cA 0, 20, .inl (fun _ => 0))), (q15, .inl (cA 0, 20, .inl (fun _ => 0)))]) F hP hD hS hin 0 rfl inX4 tyX4 tyX4_ok nmX4 rfl 1 (by decide) kw_270 rfl rfl rfl rfl rfl (Nat.le_of_ble_eq_true rfl) rfl dX4_init_17 (fun H locs hP hD hS => ?_)
  refine lv_aload_n hx hb dX4_init_20 rfl (lv_at hl 0 rfl) ?_
  refine lv_iconst (v := 4) hx hb dX4_init_21 (by decide) ?_
  refine pt_xnew (N := 4) F hP hD hS hA kw_128 (by decide) (by decide) (by decide) (Nat.le_trans (by omega) s_cb) (Nat.le_trans (by omega) s_sb) dX4_init_22 (fun q22 H hP hD hS => ?_)
  replace hP : va_P D pt_cl (([] : va_W) ++ [(a, .inr (4, [.ref q7, .ref q15, .null, .int 0])), (q7, .inl (cA 0, 20, .inl (fun _ => 0))), (q15, .inl (cA 0, 20, .inl (fun _ => 0))), (q22, .inl (cA 0, 4, .inl (fun _ => 0)))]) H := hP
  replace hD : va_D (pt_KA a s.heap.size) (([] : va_W) ++ [(a, .inr (4, [.ref q7, .ref q15, .null, .int 0])), (q7, .inl (cA 0, 20, .inl (fun _ => 0))), (q15, .inl (cA 0, 20, .inl (fun _ => 0))), (q22, .inl (cA 0, 4, .inl (fun _ => 0)))]) := hD
  refine W.widen (k := 3) (n := 44) (by omega) (by omega) ?_
  refine pt_yputF (Y' := [(a, .inr (4, [.ref q7, .ref q15, .ref q22, .int 0])), (q7, .inl (cA 0, 20, .inl (fun _ => 0))), (q15, .inl (cA 0, 20, .inl (fun _ => 0))), (q22, .inl (cA 0, 4, .inl (fun _ => 0)))]) F hP hD hS hin 0 rfl inX4 tyX4 tyX4_ok nmX4 rfl 2 (by decide) kw_273 rfl rfl rfl rfl rfl (Nat.le_of_ble_eq_true rfl) rfl dX4_init_24 (fun H locs hP hD hS => ?_)
  refine lv_iconst (v := 0) hx hb dX4_init_27 (by decide) ?_
  refine lv_istore_n (lv' := [(1, .int 0), (0, .ref a)]) hx hb dX4_init_28 rfl hl (by decide) rfl (fun ls hl => ?_)
  suffices K : ∀ (n i : Nat) (x1 : Int32) (f : Nat → Int32), i ≤ 20 → 21 ≤ i + n → x1 = nI i → (∀ j, j < i → f j = -1) → ∀ (H : Heap) (locs : List Loc) (ls : Array Slot), va_P D pt_cl (([] : va_W) ++ [(a, .inr (4, [.ref q7, .ref q15, .ref q22, .int 0])), (q7, .inl (cA 0, 20, .inl f)), (q15, .inl (cA 0, 20, .inl (fun _ => 0))), (q22, .inl (cA 0, 4, .inl (fun _ => 0)))]) H → va_D (pt_KA a s.heap.size) (([] : va_W) ++ [(a, .inr (4, [.ref q7, .ref q15, .ref q22, .int 0])), (q7, .inl (cA 0, 20, .inl f)), (q15, .inl (cA 0, 20, .inl (fun _ => 0))), (q22, .inl (cA 0, 4, .inl (fun _ => 0)))]) → va_S (pt_KA a s.heap.size) s.heap H locs → lv_has ls 2 [(0, .ref a), (1, .int x1)] → W p l e (headSpec (Cond.code yX4_init cX4_init 2 none :: lw_all) ({ frames := 1, cells := 3, slots := 44, locals := 12 } : Room)).room s m ([.ref a] : List Value).toArray below meth c H locs 3 44 (MQ below (va_Qv (fun _ : Nat × Nat × Nat => True) (pt_KB D a s.heap.size (pk4 cA a)) (pt_KA a s.heap.size)) ([.ref a] : List Value).toArray s 3 44 (pt_KA a s.heap.size)) (F0 m 29 ls []) from K 21 0 0 (fun _ => 0) (by omega) (by omega) rfl (fun j hj => absurd hj (Nat.not_lt_zero j)) _ _ _ hP hD hS (lv_sub hl [1, 0] rfl)
  clear hl hP hD hS
  intro n
  induction n with
  | zero => intro i x1 f h1 h2; exact absurd h2 (by omega)
  | succ n ih =>
    intro i x1 f hi hin2 ex1 hf H locs ls hP hD hS hl
    refine lv_iload_n hx hb dX4_init_29 rfl (lv_at hl 1 rfl) ?_
    refine lv_aload_n hx hb dX4_init_30 rfl (lv_at hl 0 rfl) ?_
    refine pt_yget F hP 0 rfl inX4 rfl 0 (by decide) kw_267 rfl rfl dX4_init_31 ?_
    refine pt_ylen F hP 0 1 rfl rfl dX4_init_34 ?_
    refine lv_icmp_ge (tgt := 51) hx hb dX4_init_35 (by decide) (fun hc => ?_) (fun hc => ?_)
    · have h20 : 20 ≤ i := pt_geI ex1 (by omega) hc
      replace hP := pt_xfun (Y' := [(a, .inr (4, [.ref q7, .ref q15, .ref q22, .int 0])), (q7, .inl (cA 0, 20, .inl (fun _ => (-1)))), (q15, .inl (cA 0, 20, .inl (fun _ => 0))), (q22, .inl (cA 0, 4, .inl (fun _ => 0)))]) hP 1 rfl (fun j hj => hf j (by omega)) rfl
      replace hD := pt_xsetD (e' := .inl (cA 0, 20, .inl (fun _ => (-1)))) (Y' := [(a, .inr (4, [.ref q7, .ref q15, .ref q22, .int 0])), (q7, .inl (cA 0, 20, .inl (fun _ => (-1)))), (q15, .inl (cA 0, 20, .inl (fun _ => 0))), (q22, .inl (cA 0, 4, .inl (fun _ => 0)))]) hD 1 rfl rfl
      exact W.vret hx hb hr (fun t ht hW => ⟨⟨(q7, q15, q22), rfl, trivial, by rw [ht]; exact hP, hD⟩, hS.F ht⟩) hS.2.2 dX4_init_51
    · have hi20 : i < 20 := pt_ltI ex1 (by omega) hc
      have hvin : vp_in x1 20 := by rw [ex1]; exact vp_in_nI hi20 (by omega)
      refine lv_aload_n hx hb dX4_init_38 rfl (lv_at hl 0 rfl) ?_
      refine pt_yget F hP 0 rfl inX4 rfl 0 (by decide) kw_267 rfl rfl dX4_init_39 ?_
      refine lv_iload_n hx hb dX4_init_42 rfl (lv_at hl 1 rfl) ?_
      refine lv_iconst (v := (-1)) hx hb dX4_init_43 (by decide) ?_
      refine pt_xist (Y' := fun f1 => [(a, .inr (4, [.ref q7, .ref q15, .ref q22, .int 0])), (q7, .inl (cA 0, 20, .inl f1)), (q15, .inl (cA 0, 20, .inl (fun _ => 0))), (q22, .inl (cA 0, 4, .inl (fun _ => 0)))]) F hP hD hS 1 rfl hvin dX4_init_44 (fun _ => rfl) (fun f44 H locs ef44 hP hD hS => ?_)
      obtain ⟨y45, ey45⟩ : ∃ y : Int32, y = x1 + 1 := ⟨_, rfl⟩
      refine lv_iinc (v := y45) (lv' := [(1, .int y45), (0, .ref a)]) hx hb dX4_init_45 hl (k := 1) rfl (by rw [ey45]; rfl) (by decide) rfl (fun ls hl => ?_)
      refine lv_goto (tgt := 29) hx hb dX4_init_48 (by decide) ?_
      exact ih (i + 1) y45 f44 (by omega) (by omega) (by rw [ey45, ex1]; exact nI_1 i) (fun j hj => by rw [ef44]; exact pt_updI ex1 hf j hj (by omega)) _ _ _ hP hD hS (lv_sub hl [1, 0] rfl)
set_option maxHeartbeats 8000000 in
set_option maxRecDepth 100000 in
theorem mtX3_init (l : Launch) (D : va_G) (cA : Nat → ClassId) (sz a : Nat) (h : Nat) : Met l yX3_init (Cond.code yX3_init cX3_init 2 none :: lw_all) ({ frames := 2, cells := 7, slots := 116, locals := 33 } : Room) (va_Pc [.ref a, .ref h] (pt_KP D cA sz (a, .inr (3, [.null, .null, .null, .int 0, .int 0, .int 0, .int 0, .null, .int 0, .null, .int 0])))) (va_Qv (fun _ : Nat × Nat × Nat × Nat × Nat × Nat × Nat => True) (pt_KB D a sz (pk3 cA a h)) (pt_KA a sz)) 7 116 (pt_KA a sz) := by
  refine Met.ofW (cc := cX3_init) (maxL := 2) (ret := none) (by decide) rfl ?_
  intro p e s m args below meth c s₁ B hml hv
  obtain ⟨rfl, hsz, hP, hK⟩ := hv
  have hx := B.exec
  have hb := B.bytes
  have hr := B.returns
  have hts0 := atoms_spec (ws := (Cond.code yX3_init cX3_init 2 none :: lw_all)) B.pre
  have hown : s.vm.findClass RX3 = some m.cls := findClass_of_methodNamed B.named
  have hlocks := B.notSynchronized
  have hin : meth.name = "<init>" := (name_of_methodNamed B.named B.method).1
  subst hsz
  have F : pt_F p m c cX3_init 2 s _ RX3 D cA := ⟨⟨hx, hb, hml, hown, fun w h => hts0 w (List.mem_cons_of_mem _ h)⟩, hK⟩
  have s_cb : 7 ≤ (headSpec (Cond.code yX3_init cX3_init 2 none :: lw_all) ({ frames := 2, cells := 7, slots := 116, locals := 33 } : Room)).room.cells := Nat.le_of_ble_eq_true rfl
  have s_sb : 116 ≤ (headSpec (Cond.code yX3_init cX3_init 2 none :: lw_all) ({ frames := 2, cells := 7, slots := 116, locals := 33 } : Room)).room.slots := Nat.le_of_ble_eq_true rfl
  have hS : va_S (pt_KA a s.heap.size) s.heap s.heap [] := va_S.rf
  have hA : ∀ q, s.heap.size ≤ q → pt_KA a s.heap.size q := fun q h => Or.inr h
  replace hP : va_P D pt_cl (([] : va_W) ++ [(a, .inr (3, [.null, .null, .null, .int 0, .int 0, .int 0, .int 0, .null, .int 0, .null, .int 0]))]) s.heap := hP
  have hD : va_D (pt_KA a s.heap.size) (([] : va_W) ++ [(a, .inr (3, [.null, .null, .null, .int 0, .int 0, .int 0, .int 0, .null, .int 0, .null, .int 0]))]) := pt_kD1
  have hl := lv_entry ([.ref a, .ref h]) (n := 2) (Nat.le_of_ble_eq_true rfl)
  rw [lg_entry_eq]
  generalize (lg_sl ([.ref a, .ref h]) ++ List.replicate (2 - (lg_sl ([.ref a, .ref h])).length) Slot.unset).toArray = ls at hl ⊢
  have hl : lv_has ls 2 [(0, .ref a), (1, .ref h)] := hl
  refine lv_aload_n hx hb dX3_init_0 rfl (lv_at hl 0 rfl) ?_
  refine W.objInit hx hb hown (F.1.2.2.2.2 _ kw_260) (F.1.2.2.2.2 _ kw_89) (F.1.2.2.2.2 _ kw_90) rfl (by rw [hml]; exact hl.1) rfl dX3_init_1 (Nat.le_of_ble_eq_true rfl) (Nat.le_of_ble_eq_true rfl) ?_
  refine W.eq (g2 := F0 m 4 ls []) rfl ?_
  refine lv_aload_n hx hb dX3_init_4 rfl (lv_at hl 0 rfl) ?_
  refine pt_ynew (ci := 4) (fs := [.null, .null, .null, .int 0]) F hP hD hS hA inX4 tyX4 tyX4_ok kw_261 kw_262 kw_58 rfl (fun j hj => by rcases (show j = 0 ∨ j = 1 ∨ j = 2 ∨ j = 3 by omega) with rfl | rfl | rfl | rfl <;> rfl) (Nat.le_trans (by omega) s_cb) (Nat.le_trans (by omega) s_sb) dX3_init_5 (fun q5 H hP hD hS => ?_)
  replace hP : va_P D pt_cl (([] : va_W) ++ [(a, .inr (3, [.null, .null, .null, .int 0, .int 0, .int 0, .int 0, .null, .int 0, .null, .int 0])), (q5, .inr (4, [.null, .null, .null, .int 0]))]) H := hP
  replace hD : va_D (pt_KA a s.heap.size) (([] : va_W) ++ [(a, .inr (3, [.null, .null, .null, .int 0, .int 0, .int 0, .int 0, .null, .int 0, .null, .int 0])), (q5, .inr (4, [.null, .null, .null, .int 0]))]) := hD
  refine W.widen (k := 1) (n := 4) (by omega) (by omega) ?_
  refine lv_dup hx hb dX3_init_8 rfl ?_
  refine pt_kcall (Y := [(a, .inr (3, [.null, .null, .null, .int 0, .int 0, .int 0, .int 0, .null, .int 0, .null, .int 0]))]) (x := (q5, .inr (4, [.null, .null, .null, .int 0]))) (pt_krun (n := 0) (As := []) (rest := [.ref q5, .ref a]) F (mtX4_init l D cA _ q5) pt_kblind (fun U hU hW => ⟨by rw [hU], by rw [hU]; exact (pt_xP.mp (pt_xpick hP [1] rfl)).2, va_K.moved hW.alike F.2⟩) kw_265 (Or.inl kw_263) kw_58 kw_264 rfl ⟨by decide, by decide, by decide +kernel⟩ ⟨rfl, rfl, Nat.le_of_ble_eq_true rfl, Nat.le_of_ble_eq_true rfl⟩ rfl hl.1 rfl (Nat.le_of_ble_eq_true rfl) dX3_init_9 ⟨(Nat.le_trans (by omega) s_cb), (Nat.le_trans (by omega) s_sb)⟩) hP hD hS hA (fun u_9 H locs _ hP hD hS => ?_)
  obtain ⟨a_9, r_9, v_9⟩ := u_9
  replace hP : va_P D pt_cl (([] : va_W) ++ [(a, .inr (3, [.null, .null, .null, .int 0, .int 0, .int 0, .int 0, .null, .int 0, .null, .int 0])), (q5, .inr (4, [.ref a_9, .ref r_9, .ref v_9, .int 0])), (a_9, .inl (cA 0, 20, .inl (fun _ => (-1)))), (r_9, .inl (cA 0, 20, .inl (fun _ => 0))), (v_9, .inl (cA 0, 4, .inl (fun _ => 0)))]) H := hP
  replace hD : va_D (pt_KA a s.heap.size) (([] : va_W) ++ [(a, .inr (3, [.null, .null, .null, .int 0, .int 0, .int 0, .int 0, .null, .int 0, .null, .int 0])), (q5, .inr (4, [.ref a_9, .ref r_9, .ref v_9, .int 0])), (a_9, .inl (cA 0, 20, .inl (fun _ => (-1)))), (r_9, .inl (cA 0, 20, .inl (fun _ => 0))), (v_9, .inl (cA 0, 4, .inl (fun _ => 0)))]) := hD
  refine W.widen (k := 4) (n := 48) (by omega) (by omega) ?_
  refine pt_yputF (Y' := [(a, .inr (3, [.null, .ref q5, .null, .int 0, .int 0, .int 0, .int 0, .null, .int 0, .null, .int 0])), (q5, .inr (4, [.ref a_9, .ref r_9, .ref v_9, .int 0])), (a_9, .inl (cA 0, 20, .inl (fun _ => (-1)))), (r_9, .inl (cA 0, 20, .inl (fun _ => 0))), (v_9, .inl (cA 0, 4, .inl (fun _ => 0)))]) F hP hD hS hin 0 rfl inX3 tyX3 tyX3_ok nmX3 rfl 1 (by decide) kw_290 rfl rfl rfl rfl rfl (Nat.le_of_ble_eq_true rfl) rfl dX3_init_12 (fun H locs hP hD hS => ?_)
  refine lv_aload_n hx hb dX3_init_15 rfl (lv_at hl 0 rfl) ?_
  refine lv_bipush (v := 30) hx hb dX3_init_16 (by decide) ?_
  refine pt_xnew (N := 30) F hP hD hS hA kw_128 (by decide) (by decide) (by decide) (Nat.le_trans (by omega) s_cb) (Nat.le_trans (by omega) s_sb) dX3_init_18 (fun q18 H hP hD hS => ?_)
  replace hP : va_P D pt_cl (([] : va_W) ++ [(a, .inr (3, [.null, .ref q5, .null, .int 0, .int 0, .int 0, .int 0, .null, .int 0, .null, .int 0])), (q5, .inr (4, [.ref a_9, .ref r_9, .ref v_9, .int 0])), (a_9, .inl (cA 0, 20, .inl (fun _ => (-1)))), (r_9, .inl (cA 0, 20, .inl (fun _ => 0))), (v_9, .inl (cA 0, 4, .inl (fun _ => 0))), (q18, .inl (cA 0, 30, .inl (fun _ => 0)))]) H := hP
  replace hD : va_D (pt_KA a s.heap.size) (([] : va_W) ++ [(a, .inr (3, [.null, .ref q5, .null, .int 0, .int 0, .int 0, .int 0, .null, .int 0, .null, .int 0])), (q5, .inr (4, [.ref a_9, .ref r_9, .ref v_9, .int 0])), (a_9, .inl (cA 0, 20, .inl (fun _ => (-1)))), (r_9, .inl (cA 0, 20, .inl (fun _ => 0))), (v_9, .inl (cA 0, 4, .inl (fun _ => 0))), (q18, .inl (cA 0, 30, .inl (fun _ => 0)))]) := hD
  refine W.widen (k := 5) (n := 78) (by omega) (by omega) ?_
  refine pt_yputF (Y' := [(a, .inr (3, [.null, .ref q5, .ref q18, .int 0, .int 0, .int 0, .int 0, .null, .int 0, .null, .int 0])), (q5, .inr (4, [.ref a_9, .ref r_9, .ref v_9, .int 0])), (a_9, .inl (cA 0, 20, .inl (fun _ => (-1)))), (r_9, .inl (cA 0, 20, .inl (fun _ => 0))), (v_9, .inl (cA 0, 4, .inl (fun _ => 0))), (q18, .inl (cA 0, 30, .inl (fun _ => 0)))]) F hP hD hS hin 0 rfl inX3 tyX3 tyX3_ok nmX3 rfl 2 (by decide) kw_293 rfl rfl rfl rfl rfl (Nat.le_of_ble_eq_true rfl) rfl dX3_init_20 (fun H locs hP hD hS => ?_)
  refine lv_aload_n hx hb dX3_init_23 rfl (lv_at hl 0 rfl) ?_
  refine lv_bipush (v := 8) hx hb dX3_init_24 (by decide) ?_
  refine pt_xnew (N := 8) F hP hD hS hA kw_128 (by decide) (by decide) (by decide) (Nat.le_trans (by omega) s_cb) (Nat.le_trans (by omega) s_sb) dX3_init_26 (fun q26 H hP hD hS => ?_)
  replace hP : va_P D pt_cl (([] : va_W) ++ [(a, .inr (3, [.null, .ref q5, .ref q18, .int 0, .int 0, .int 0, .int 0, .null, .int 0, .null, .int 0])), (q5, .inr (4, [.ref a_9, .ref r_9, .ref v_9, .int 0])), (a_9, .inl (cA 0, 20, .inl (fun _ => (-1)))), (r_9, .inl (cA 0, 20, .inl (fun _ => 0))), (v_9, .inl (cA 0, 4, .inl (fun _ => 0))), (q18, .inl (cA 0, 30, .inl (fun _ => 0))), (q26, .inl (cA 0, 8, .inl (fun _ => 0)))]) H := hP
  replace hD : va_D (pt_KA a s.heap.size) (([] : va_W) ++ [(a, .inr (3, [.null, .ref q5, .ref q18, .int 0, .int 0, .int 0, .int 0, .null, .int 0, .null, .int 0])), (q5, .inr (4, [.ref a_9, .ref r_9, .ref v_9, .int 0])), (a_9, .inl (cA 0, 20, .inl (fun _ => (-1)))), (r_9, .inl (cA 0, 20, .inl (fun _ => 0))), (v_9, .inl (cA 0, 4, .inl (fun _ => 0))), (q18, .inl (cA 0, 30, .inl (fun _ => 0))), (q26, .inl (cA 0, 8, .inl (fun _ => 0)))]) := hD
  refine W.widen (k := 6) (n := 86) (by omega) (by omega) ?_
  refine pt_yputF (Y' := [(a, .inr (3, [.null, .ref q5, .ref q18, .int 0, .int 0, .int 0, .int 0, .ref q26, .int 0, .null, .int 0])), (q5, .inr (4, [.ref a_9, .ref r_9, .ref v_9, .int 0])), (a_9, .inl (cA 0, 20, .inl (fun _ => (-1)))), (r_9, .inl (cA 0, 20, .inl (fun _ => 0))), (v_9, .inl (cA 0, 4, .inl (fun _ => 0))), (q18, .inl (cA 0, 30, .inl (fun _ => 0))), (q26, .inl (cA 0, 8, .inl (fun _ => 0)))]) F hP hD hS hin 0 rfl inX3 tyX3 tyX3_ok nmX3 rfl 7 (by decide) kw_303 rfl rfl rfl rfl rfl (Nat.le_of_ble_eq_true rfl) rfl dX3_init_28 (fun H locs hP hD hS => ?_)
  refine lv_aload_n hx hb dX3_init_31 rfl (lv_at hl 0 rfl) ?_
  refine lv_bipush (v := 30) hx hb dX3_init_32 (by decide) ?_
  refine pt_xnew (N := 30) F hP hD hS hA kw_128 (by decide) (by decide) (by decide) (Nat.le_trans (by omega) s_cb) (Nat.le_trans (by omega) s_sb) dX3_init_34 (fun q34 H hP hD hS => ?_)
  replace hP : va_P D pt_cl (([] : va_W) ++ [(a, .inr (3, [.null, .ref q5, .ref q18, .int 0, .int 0, .int 0, .int 0, .ref q26, .int 0, .null, .int 0])), (q5, .inr (4, [.ref a_9, .ref r_9, .ref v_9, .int 0])), (a_9, .inl (cA 0, 20, .inl (fun _ => (-1)))), (r_9, .inl (cA 0, 20, .inl (fun _ => 0))), (v_9, .inl (cA 0, 4, .inl (fun _ => 0))), (q18, .inl (cA 0, 30, .inl (fun _ => 0))), (q26, .inl (cA 0, 8, .inl (fun _ => 0))), (q34, .inl (cA 0, 30, .inl (fun _ => 0)))]) H := hP
  replace hD : va_D (pt_KA a s.heap.size) (([] : va_W) ++ [(a, .inr (3, [.null, .ref q5, .ref q18, .int 0, .int 0, .int 0, .int 0, .ref q26, .int 0, .null, .int 0])), (q5, .inr (4, [.ref a_9, .ref r_9, .ref v_9, .int 0])), (a_9, .inl (cA 0, 20, .inl (fun _ => (-1)))), (r_9, .inl (cA 0, 20, .inl (fun _ => 0))), (v_9, .inl (cA 0, 4, .inl (fun _ => 0))), (q18, .inl (cA 0, 30, .inl (fun _ => 0))), (q26, .inl (cA 0, 8, .inl (fun _ => 0))), (q34, .inl (cA 0, 30, .inl (fun _ => 0)))]) := hD
  refine W.widen (k := 7) (n := 116) (by omega) (by omega) ?_
  refine pt_yputF (Y' := [(a, .inr (3, [.null, .ref q5, .ref q18, .int 0, .int 0, .int 0, .int 0, .ref q26, .int 0, .ref q34, .int 0])), (q5, .inr (4, [.ref a_9, .ref r_9, .ref v_9, .int 0])), (a_9, .inl (cA 0, 20, .inl (fun _ => (-1)))), (r_9, .inl (cA 0, 20, .inl (fun _ => 0))), (v_9, .inl (cA 0, 4, .inl (fun _ => 0))), (q18, .inl (cA 0, 30, .inl (fun _ => 0))), (q26, .inl (cA 0, 8, .inl (fun _ => 0))), (q34, .inl (cA 0, 30, .inl (fun _ => 0)))]) F hP hD hS hin 0 rfl inX3 tyX3 tyX3_ok nmX3 rfl 9 (by decide) kw_305 rfl rfl rfl rfl rfl (Nat.le_of_ble_eq_true rfl) rfl dX3_init_36 (fun H locs hP hD hS => ?_)
  refine lv_aload_n hx hb dX3_init_39 rfl (lv_at hl 0 rfl) ?_
  refine lv_aload_n hx hb dX3_init_40 rfl (lv_at hl 1 rfl) ?_
  refine pt_yputF (Y' := [(a, .inr (3, [.ref h, .ref q5, .ref q18, .int 0, .int 0, .int 0, .int 0, .ref q26, .int 0, .ref q34, .int 0])), (q5, .inr (4, [.ref a_9, .ref r_9, .ref v_9, .int 0])), (a_9, .inl (cA 0, 20, .inl (fun _ => (-1)))), (r_9, .inl (cA 0, 20, .inl (fun _ => 0))), (v_9, .inl (cA 0, 4, .inl (fun _ => 0))), (q18, .inl (cA 0, 30, .inl (fun _ => 0))), (q26, .inl (cA 0, 8, .inl (fun _ => 0))), (q34, .inl (cA 0, 30, .inl (fun _ => 0)))]) F hP hD hS hin 0 rfl inX3 tyX3 tyX3_ok nmX3 rfl 0 (by decide) kw_289 rfl rfl rfl rfl rfl (Nat.le_of_ble_eq_true rfl) rfl dX3_init_41 (fun H locs hP hD hS => ?_)
  exact W.vret hx hb hr (fun t ht hW => ⟨⟨(q5, a_9, r_9, v_9, q18, q26, q34), rfl, trivial, by rw [ht]; exact hP, hD⟩, hS.F ht⟩) hS.2.2 dX3_init_44
