-- the places of the words
set_option maxRecDepth 100000 in
theorem kw_217 : (Jvm.Cond.methodLink "PuppetTheatre" (18 : Nat) ({ cls := "PuppetTheatre$Play", name := "<init>", desc := "(LPuppetTheatre$Chart;)V" } : Jvm.MethodName)) ∈ lw_all := pt_all (List.mem_of_getElem? (i := 217) rfl) rfl
set_option maxRecDepth 100000 in
theorem kw_218 : (Jvm.Cond.instanceMethod ({ cls := "PuppetTheatre$Play", name := "<init>", desc := "(LPuppetTheatre$Chart;)V" } : Jvm.MethodName)) ∈ lw_all := pt_all (List.mem_of_getElem? (i := 218) rfl) rfl
set_option maxRecDepth 100000 in
theorem kw_219 : (Jvm.Cond.code ({ cls := "PuppetTheatre$Play", name := "<init>", desc := "(LPuppetTheatre$Chart;)V" } : Jvm.MethodName) prog_5_method_1_code (2 : Nat) (Option.none : Option Jvm.ClassFile.FieldType)) ∈ lw_all := pt_all (List.mem_of_getElem? (i := 219) rfl) rfl
set_option maxRecDepth 100000 in
theorem kw_220 : (Jvm.Cond.methodLink "PuppetTheatre$Play" (3 : Nat) ({ cls := "java/lang/Object", name := "<init>", desc := "()V" } : Jvm.MethodName)) ∈ lw_all := pt_all (List.mem_of_getElem? (i := 220) rfl) rfl
set_option maxRecDepth 100000 in
theorem kw_221 : (Jvm.Cond.classLink "PuppetTheatre$Play" (9 : Nat) "PuppetTheatre$Situation") ∈ lw_all := pt_all (List.mem_of_getElem? (i := 221) rfl) rfl
set_option maxRecDepth 100000 in
theorem kw_222 : (Jvm.Cond.instantiable "PuppetTheatre$Situation" (4 : Nat)) ∈ lw_all := pt_all (List.mem_of_getElem? (i := 222) rfl) rfl
set_option maxRecDepth 100000 in
theorem kw_223 : (Jvm.Cond.methodLink "PuppetTheatre$Play" (11 : Nat) ({ cls := "PuppetTheatre$Situation", name := "<init>", desc := "()V" } : Jvm.MethodName)) ∈ lw_all := pt_all (List.mem_of_getElem? (i := 223) rfl) rfl
set_option maxRecDepth 100000 in
theorem kw_224 : (Jvm.Cond.instanceMethod ({ cls := "PuppetTheatre$Situation", name := "<init>", desc := "()V" } : Jvm.MethodName)) ∈ lw_all := pt_all (List.mem_of_getElem? (i := 224) rfl) rfl
set_option maxRecDepth 100000 in
theorem kw_225 : (Jvm.Cond.code ({ cls := "PuppetTheatre$Situation", name := "<init>", desc := "()V" } : Jvm.MethodName) prog_6_method_1_code (2 : Nat) (Option.none : Option Jvm.ClassFile.FieldType)) ∈ lw_all := pt_all (List.mem_of_getElem? (i := 225) rfl) rfl
set_option maxRecDepth 100000 in
theorem kw_226 : (Jvm.Cond.methodLink "PuppetTheatre$Situation" (3 : Nat) ({ cls := "java/lang/Object", name := "<init>", desc := "()V" } : Jvm.MethodName)) ∈ lw_all := pt_all (List.mem_of_getElem? (i := 226) rfl) rfl
set_option maxRecDepth 100000 in
theorem kw_227 : (Jvm.Cond.fieldLink "PuppetTheatre$Situation" (9 : Nat) "PuppetTheatre$Situation" "ages" "[I") ∈ lw_all := pt_all (List.mem_of_getElem? (i := 227) rfl) rfl
set_option maxRecDepth 100000 in
theorem kw_228 : (Jvm.Cond.fieldLink "PuppetTheatre$Play" (93 : Nat) "PuppetTheatre$Situation" "ages" "[I") ∈ lw_all := pt_all (List.mem_of_getElem? (i := 228) rfl) rfl
set_option maxRecDepth 100000 in
theorem kw_229 : (Jvm.Cond.fieldLink "PuppetTheatre" (193 : Nat) "PuppetTheatre$Situation" "ages" "[I") ∈ lw_all := pt_all (List.mem_of_getElem? (i := 229) rfl) rfl
set_option maxRecDepth 100000 in
theorem kw_230 : (Jvm.Cond.fieldLink "PuppetTheatre$Situation" (15 : Nat) "PuppetTheatre$Situation" "records" "[I") ∈ lw_all := pt_all (List.mem_of_getElem? (i := 230) rfl) rfl
set_option maxRecDepth 100000 in
theorem kw_231 : (Jvm.Cond.fieldLink "PuppetTheatre$Play" (210 : Nat) "PuppetTheatre$Situation" "records" "[I") ∈ lw_all := pt_all (List.mem_of_getElem? (i := 231) rfl) rfl
set_option maxRecDepth 100000 in
theorem kw_232 : (Jvm.Cond.fieldLink "PuppetTheatre" (197 : Nat) "PuppetTheatre$Situation" "records" "[I") ∈ lw_all := pt_all (List.mem_of_getElem? (i := 232) rfl) rfl
set_option maxRecDepth 100000 in
theorem kw_233 : (Jvm.Cond.fieldLink "PuppetTheatre$Situation" (18 : Nat) "PuppetTheatre$Situation" "variables" "[I") ∈ lw_all := pt_all (List.mem_of_getElem? (i := 233) rfl) rfl
set_option maxRecDepth 100000 in
theorem kw_234 : (Jvm.Cond.fieldLink "PuppetTheatre$Play" (165 : Nat) "PuppetTheatre$Situation" "variables" "[I") ∈ lw_all := pt_all (List.mem_of_getElem? (i := 234) rfl) rfl
set_option maxRecDepth 100000 in
theorem kw_235 : (Jvm.Cond.fieldLink "PuppetTheatre" (203 : Nat) "PuppetTheatre$Situation" "variables" "[I") ∈ lw_all := pt_all (List.mem_of_getElem? (i := 235) rfl) rfl
set_option maxRecDepth 100000 in
theorem kw_236 : (Jvm.Cond.fieldLink "PuppetTheatre$Situation" (21 : Nat) "PuppetTheatre$Situation" "active" "I") ∈ lw_all := pt_all (List.mem_of_getElem? (i := 236) rfl) rfl
set_option maxRecDepth 100000 in
theorem kw_237 : (Jvm.Cond.fieldLink "PuppetTheatre$Look" (42 : Nat) "PuppetTheatre$Situation" "active" "I") ∈ lw_all := pt_all (List.mem_of_getElem? (i := 237) rfl) rfl
set_option maxRecDepth 100000 in
theorem kw_238 : (Jvm.Cond.fieldLink "PuppetTheatre$Play" (62 : Nat) "PuppetTheatre$Situation" "active" "I") ∈ lw_all := pt_all (List.mem_of_getElem? (i := 238) rfl) rfl
set_option maxRecDepth 100000 in
theorem kw_239 : (Jvm.Cond.fieldLink "PuppetTheatre" (168 : Nat) "PuppetTheatre$Situation" "active" "I") ∈ lw_all := pt_all (List.mem_of_getElem? (i := 239) rfl) rfl
set_option maxRecDepth 100000 in
theorem kw_249 : (Jvm.Cond.fieldLink "PuppetTheatre$Play" (28 : Nat) "PuppetTheatre$Play" "chart" "LPuppetTheatre$Chart;") ∈ lw_all := pt_all (List.mem_of_getElem? (i := 249) rfl) rfl
set_option maxRecDepth 100000 in
theorem kw_250 : (Jvm.Cond.fieldLink "PuppetTheatre$Play" (12 : Nat) "PuppetTheatre$Play" "situation" "LPuppetTheatre$Situation;") ∈ lw_all := pt_all (List.mem_of_getElem? (i := 250) rfl) rfl
set_option maxRecDepth 100000 in
theorem kw_251 : (Jvm.Cond.fieldLink "PuppetTheatre$Look" (56 : Nat) "PuppetTheatre$Play" "situation" "LPuppetTheatre$Situation;") ∈ lw_all := pt_all (List.mem_of_getElem? (i := 251) rfl) rfl
set_option maxRecDepth 100000 in
theorem kw_252 : (Jvm.Cond.fieldLink "PuppetTheatre" (164 : Nat) "PuppetTheatre$Play" "situation" "LPuppetTheatre$Situation;") ∈ lw_all := pt_all (List.mem_of_getElem? (i := 252) rfl) rfl
set_option maxRecDepth 100000 in
theorem kw_253 : (Jvm.Cond.fieldLink "PuppetTheatre$Play" (18 : Nat) "PuppetTheatre$Play" "fired" "[I") ∈ lw_all := pt_all (List.mem_of_getElem? (i := 253) rfl) rfl
set_option maxRecDepth 100000 in
theorem kw_254 : (Jvm.Cond.fieldLink "PuppetTheatre" (209 : Nat) "PuppetTheatre$Play" "fired" "[I") ∈ lw_all := pt_all (List.mem_of_getElem? (i := 254) rfl) rfl
set_option maxRecDepth 100000 in
theorem kw_255 : (Jvm.Cond.fieldLink "PuppetTheatre$Look" (76 : Nat) "PuppetTheatre$Play" "firedLast" "I") ∈ lw_all := pt_all (List.mem_of_getElem? (i := 255) rfl) rfl
set_option maxRecDepth 100000 in
theorem kw_256 : (Jvm.Cond.fieldLink "PuppetTheatre$Play" (65 : Nat) "PuppetTheatre$Play" "firedLast" "I") ∈ lw_all := pt_all (List.mem_of_getElem? (i := 256) rfl) rfl
set_option maxRecDepth 100000 in
theorem kw_257 : (Jvm.Cond.fieldLink "PuppetTheatre$Play" (35 : Nat) "PuppetTheatre$Play" "clock" "I") ∈ lw_all := pt_all (List.mem_of_getElem? (i := 257) rfl) rfl
set_option maxRecDepth 100000 in
theorem kw_258 : (Jvm.Cond.fieldLink "PuppetTheatre" (206 : Nat) "PuppetTheatre$Play" "clock" "I") ∈ lw_all := pt_all (List.mem_of_getElem? (i := 258) rfl) rfl
set_option maxRecDepth 100000 in
theorem kw_259 : (Jvm.Cond.fieldLink "PuppetTheatre$Play" (39 : Nat) "PuppetTheatre$Play" "lost" "I") ∈ lw_all := pt_all (List.mem_of_getElem? (i := 259) rfl) rfl
set_option maxRecDepth 100000 in
theorem kw_260 : (Jvm.Cond.fieldLink "PuppetTheatre" (212 : Nat) "PuppetTheatre$Play" "lost" "I") ∈ lw_all := pt_all (List.mem_of_getElem? (i := 260) rfl) rfl
set_option maxRecDepth 100000 in
theorem kw_261 : (Jvm.Cond.fieldLink "PuppetTheatre$Play" (42 : Nat) "PuppetTheatre$Play" "restless" "I") ∈ lw_all := pt_all (List.mem_of_getElem? (i := 261) rfl) rfl
set_option maxRecDepth 100000 in
theorem kw_262 : (Jvm.Cond.fieldLink "PuppetTheatre" (215 : Nat) "PuppetTheatre$Play" "restless" "I") ∈ lw_all := pt_all (List.mem_of_getElem? (i := 262) rfl) rfl
set_option maxRecDepth 100000 in
theorem kw_263 : (Jvm.Cond.fieldLink "PuppetTheatre$Play" (22 : Nat) "PuppetTheatre$Play" "queue" "[I") ∈ lw_all := pt_all (List.mem_of_getElem? (i := 263) rfl) rfl
set_option maxRecDepth 100000 in
theorem kw_264 : (Jvm.Cond.fieldLink "PuppetTheatre$Play" (45 : Nat) "PuppetTheatre$Play" "queued" "I") ∈ lw_all := pt_all (List.mem_of_getElem? (i := 264) rfl) rfl
set_option maxRecDepth 100000 in
theorem kw_265 : (Jvm.Cond.fieldLink "PuppetTheatre$Play" (25 : Nat) "PuppetTheatre$Play" "taken" "[I") ∈ lw_all := pt_all (List.mem_of_getElem? (i := 265) rfl) rfl
set_option maxRecDepth 100000 in
theorem kw_266 : (Jvm.Cond.fieldLink "PuppetTheatre$Play" (103 : Nat) "PuppetTheatre$Play" "takenCount" "I") ∈ lw_all := pt_all (List.mem_of_getElem? (i := 266) rfl) rfl
set_option maxRecDepth 100000 in
theorem kw_290 : (Jvm.Cond.classLink "PuppetTheatre" (28 : Nat) "PuppetTheatre$Look") ∈ lw_all := pt_all (List.mem_of_getElem? (i := 290) rfl) rfl
set_option maxRecDepth 100000 in
theorem kw_291 : (Jvm.Cond.instantiable "PuppetTheatre$Look" (9 : Nat)) ∈ lw_all := pt_all (List.mem_of_getElem? (i := 291) rfl) rfl
set_option maxRecDepth 100000 in
theorem kw_292 : (Jvm.Cond.methodLink "PuppetTheatre" (30 : Nat) ({ cls := "PuppetTheatre$Look", name := "<init>", desc := "(LPuppetTheatre$Play;)V" } : Jvm.MethodName)) ∈ lw_all := pt_all (List.mem_of_getElem? (i := 292) rfl) rfl
set_option maxRecDepth 100000 in
theorem kw_293 : (Jvm.Cond.instanceMethod ({ cls := "PuppetTheatre$Look", name := "<init>", desc := "(LPuppetTheatre$Play;)V" } : Jvm.MethodName)) ∈ lw_all := pt_all (List.mem_of_getElem? (i := 293) rfl) rfl
set_option maxRecDepth 100000 in
theorem kw_294 : (Jvm.Cond.code ({ cls := "PuppetTheatre$Look", name := "<init>", desc := "(LPuppetTheatre$Play;)V" } : Jvm.MethodName) prog_4_method_1_code (3 : Nat) (Option.none : Option Jvm.ClassFile.FieldType)) ∈ lw_all := pt_all (List.mem_of_getElem? (i := 294) rfl) rfl
set_option maxRecDepth 100000 in
theorem kw_295 : (Jvm.Cond.methodLink "PuppetTheatre$Look" (3 : Nat) ({ cls := "java/lang/Object", name := "<init>", desc := "()V" } : Jvm.MethodName)) ∈ lw_all := pt_all (List.mem_of_getElem? (i := 295) rfl) rfl
set_option maxRecDepth 100000 in
theorem kw_296 : (Jvm.Cond.classLink "PuppetTheatre$Look" (15 : Nat) "PuppetTheatre$Situation") ∈ lw_all := pt_all (List.mem_of_getElem? (i := 296) rfl) rfl
set_option maxRecDepth 100000 in
theorem kw_297 : (Jvm.Cond.arrayOver (Jvm.ClassFile.FieldType.object "PuppetTheatre$Situation")) ∈ lw_all := pt_all (List.mem_of_getElem? (i := 297) rfl) rfl
set_option maxRecDepth 100000 in
theorem kw_298 : (Jvm.Cond.methodLink "PuppetTheatre$Look" (34 : Nat) ({ cls := "PuppetTheatre$Situation", name := "<init>", desc := "()V" } : Jvm.MethodName)) ∈ lw_all := pt_all (List.mem_of_getElem? (i := 298) rfl) rfl
set_option maxRecDepth 100000 in
theorem kw_299 : (Jvm.Cond.fieldLink "PuppetTheatre$Look" (9 : Nat) "PuppetTheatre$Look" "row" "[I") ∈ lw_all := pt_all (List.mem_of_getElem? (i := 299) rfl) rfl
set_option maxRecDepth 100000 in
theorem kw_300 : (Jvm.Cond.fieldLink "PuppetTheatre" (235 : Nat) "PuppetTheatre$Look" "row" "[I") ∈ lw_all := pt_all (List.mem_of_getElem? (i := 300) rfl) rfl
set_option maxRecDepth 100000 in
theorem kw_301 : (Jvm.Cond.fieldLink "PuppetTheatre$Look" (35 : Nat) "PuppetTheatre$Look" "rowLength" "I") ∈ lw_all := pt_all (List.mem_of_getElem? (i := 301) rfl) rfl
set_option maxRecDepth 100000 in
theorem kw_302 : (Jvm.Cond.fieldLink "PuppetTheatre" (232 : Nat) "PuppetTheatre$Look" "rowLength" "I") ∈ lw_all := pt_all (List.mem_of_getElem? (i := 302) rfl) rfl
set_option maxRecDepth 100000 in
theorem kw_303 : (Jvm.Cond.fieldLink "PuppetTheatre$Look" (39 : Nat) "PuppetTheatre$Look" "lookedAt" "I") ∈ lw_all := pt_all (List.mem_of_getElem? (i := 303) rfl) rfl
set_option maxRecDepth 100000 in
theorem kw_304 : (Jvm.Cond.fieldLink "PuppetTheatre" (238 : Nat) "PuppetTheatre$Look" "lookedAt" "I") ∈ lw_all := pt_all (List.mem_of_getElem? (i := 304) rfl) rfl
set_option maxRecDepth 100000 in
theorem kw_305 : (Jvm.Cond.fieldLink "PuppetTheatre$Look" (30 : Nat) "PuppetTheatre$Look" "trial" "LPuppetTheatre$Play;") ∈ lw_all := pt_all (List.mem_of_getElem? (i := 305) rfl) rfl
set_option maxRecDepth 100000 in
theorem kw_306 : (Jvm.Cond.fieldLink "PuppetTheatre$Look" (17 : Nat) "PuppetTheatre$Look" "found" "[LPuppetTheatre$Situation;") ∈ lw_all := pt_all (List.mem_of_getElem? (i := 306) rfl) rfl
set_option maxRecDepth 100000 in
theorem kw_307 : (Jvm.Cond.fieldLink "PuppetTheatre$Look" (21 : Nat) "PuppetTheatre$Look" "origin" "[I") ∈ lw_all := pt_all (List.mem_of_getElem? (i := 307) rfl) rfl
set_option maxRecDepth 100000 in
theorem kw_308 : (Jvm.Cond.fieldLink "PuppetTheatre$Look" (24 : Nat) "PuppetTheatre$Look" "byCall" "[I") ∈ lw_all := pt_all (List.mem_of_getElem? (i := 308) rfl) rfl
set_option maxRecDepth 100000 in
theorem kw_309 : (Jvm.Cond.fieldLink "PuppetTheatre$Look" (27 : Nat) "PuppetTheatre$Look" "calls" "[I") ∈ lw_all := pt_all (List.mem_of_getElem? (i := 309) rfl) rfl
set_option maxRecDepth 100000 in
theorem kw_310 : (Jvm.Cond.fieldLink "PuppetTheatre$Look" (53 : Nat) "PuppetTheatre$Look" "foundCount" "I") ∈ lw_all := pt_all (List.mem_of_getElem? (i := 310) rfl) rfl
set_option maxRecDepth 100000 in
theorem kw_330 : (Jvm.Cond.fieldLink "PuppetTheatre" (10 : Nat) "PuppetTheatre" "chart" "LPuppetTheatre$Chart;") ∈ lw_all := pt_all (List.mem_of_getElem? (i := 330) rfl) rfl
set_option maxRecDepth 100000 in
theorem kw_331 : (Jvm.Cond.fieldLink "PuppetTheatre" (21 : Nat) "PuppetTheatre" "play" "LPuppetTheatre$Play;") ∈ lw_all := pt_all (List.mem_of_getElem? (i := 331) rfl) rfl
set_option maxRecDepth 100000 in
theorem kw_332 : (Jvm.Cond.fieldLink "PuppetTheatre" (25 : Nat) "PuppetTheatre" "trial" "LPuppetTheatre$Play;") ∈ lw_all := pt_all (List.mem_of_getElem? (i := 332) rfl) rfl
set_option maxRecDepth 100000 in
theorem kw_333 : (Jvm.Cond.fieldLink "PuppetTheatre" (33 : Nat) "PuppetTheatre" "look" "LPuppetTheatre$Look;") ∈ lw_all := pt_all (List.mem_of_getElem? (i := 333) rfl) rfl
set_option maxRecDepth 100000 in
theorem kw_334 : (Jvm.Cond.fieldLink "PuppetTheatre" (37 : Nat) "PuppetTheatre" "running" "Z") ∈ lw_all := pt_all (List.mem_of_getElem? (i := 334) rfl) rfl
set_option maxRecDepth 100000 in
theorem kw_346 : (Jvm.Cond.methodLink "PuppetTheatreLaw" (72 : Nat) ({ cls := "PuppetTheatre", name := "start", desc := "()I" } : Jvm.MethodName)) ∈ lw_all := pt_all (List.mem_of_getElem? (i := 346) rfl) rfl
set_option maxRecDepth 100000 in
theorem kw_347 : (Jvm.Cond.instanceMethod ({ cls := "PuppetTheatre", name := "start", desc := "()I" } : Jvm.MethodName)) ∈ lw_all := pt_all (List.mem_of_getElem? (i := 347) rfl) rfl
set_option maxRecDepth 100000 in
theorem kw_348 : (Jvm.Cond.selects "PuppetTheatre" ({ cls := "PuppetTheatre", name := "start", desc := "()I" } : Jvm.MethodName) ({ cls := "PuppetTheatre", name := "start", desc := "()I" } : Jvm.MethodName)) ∈ lw_all := pt_all (List.mem_of_getElem? (i := 348) rfl) rfl
set_option maxRecDepth 100000 in
theorem kw_349 : (Jvm.Cond.code ({ cls := "PuppetTheatre", name := "start", desc := "()I" } : Jvm.MethodName) prog_1_method_8_code (1 : Nat) (Option.some Jvm.ClassFile.FieldType.int)) ∈ lw_all := pt_all (List.mem_of_getElem? (i := 349) rfl) rfl
set_option maxRecDepth 100000 in
theorem kw_350 : (Jvm.Cond.methodLink "PuppetTheatre" (76 : Nat) ({ cls := "PuppetTheatre", name := "checkResting", desc := "()V" } : Jvm.MethodName)) ∈ lw_all := pt_all (List.mem_of_getElem? (i := 350) rfl) rfl
set_option maxRecDepth 100000 in
theorem kw_352 : (Jvm.Cond.instanceMethod ({ cls := "PuppetTheatre", name := "checkResting", desc := "()V" } : Jvm.MethodName)) ∈ lw_all := pt_all (List.mem_of_getElem? (i := 352) rfl) rfl
set_option maxRecDepth 100000 in
theorem kw_353 : (Jvm.Cond.code ({ cls := "PuppetTheatre", name := "checkResting", desc := "()V" } : Jvm.MethodName) prog_1_method_37_code (1 : Nat) (Option.none : Option Jvm.ClassFile.FieldType)) ∈ lw_all := pt_all (List.mem_of_getElem? (i := 353) rfl) rfl
set_option maxRecDepth 100000 in
theorem kw_417 : (Jvm.Cond.methodLink "PuppetTheatre" (145 : Nat) ({ cls := "PuppetTheatre$Play", name := "reset", desc := "()V" } : Jvm.MethodName)) ∈ lw_all := pt_all (List.mem_of_getElem? (i := 417) rfl) rfl
set_option maxRecDepth 100000 in
theorem kw_418 : (Jvm.Cond.instanceMethod ({ cls := "PuppetTheatre$Play", name := "reset", desc := "()V" } : Jvm.MethodName)) ∈ lw_all := pt_all (List.mem_of_getElem? (i := 418) rfl) rfl
set_option maxRecDepth 100000 in
theorem kw_419 : (Jvm.Cond.selects "PuppetTheatre$Play" ({ cls := "PuppetTheatre$Play", name := "reset", desc := "()V" } : Jvm.MethodName) ({ cls := "PuppetTheatre$Play", name := "reset", desc := "()V" } : Jvm.MethodName)) ∈ lw_all := pt_all (List.mem_of_getElem? (i := 419) rfl) rfl
set_option maxRecDepth 100000 in
theorem kw_420 : (Jvm.Cond.code ({ cls := "PuppetTheatre$Play", name := "reset", desc := "()V" } : Jvm.MethodName) prog_5_method_2_code (2 : Nat) (Option.none : Option Jvm.ClassFile.FieldType)) ∈ lw_all := pt_all (List.mem_of_getElem? (i := 420) rfl) rfl
set_option maxRecDepth 100000 in
theorem kw_421 : (Jvm.Cond.methodLink "PuppetTheatre$Play" (32 : Nat) ({ cls := "PuppetTheatre$Situation", name := "clear", desc := "()V" } : Jvm.MethodName)) ∈ lw_all := pt_all (List.mem_of_getElem? (i := 421) rfl) rfl
set_option maxRecDepth 100000 in
theorem kw_422 : (Jvm.Cond.instanceMethod ({ cls := "PuppetTheatre$Situation", name := "clear", desc := "()V" } : Jvm.MethodName)) ∈ lw_all := pt_all (List.mem_of_getElem? (i := 422) rfl) rfl
set_option maxRecDepth 100000 in
theorem kw_423 : (Jvm.Cond.selects "PuppetTheatre$Situation" ({ cls := "PuppetTheatre$Situation", name := "clear", desc := "()V" } : Jvm.MethodName) ({ cls := "PuppetTheatre$Situation", name := "clear", desc := "()V" } : Jvm.MethodName)) ∈ lw_all := pt_all (List.mem_of_getElem? (i := 423) rfl) rfl
set_option maxRecDepth 100000 in
theorem kw_424 : (Jvm.Cond.code ({ cls := "PuppetTheatre$Situation", name := "clear", desc := "()V" } : Jvm.MethodName) prog_6_method_3_code (2 : Nat) (Option.none : Option Jvm.ClassFile.FieldType)) ∈ lw_all := pt_all (List.mem_of_getElem? (i := 424) rfl) rfl
set_option maxRecDepth 100000 in
theorem kw_425 : (Jvm.Cond.methodLink "PuppetTheatre$Situation" (25 : Nat) ({ cls := "PuppetTheatre$Situation", name := "deactivate", desc := "()V" } : Jvm.MethodName)) ∈ lw_all := pt_all (List.mem_of_getElem? (i := 425) rfl) rfl
set_option maxRecDepth 100000 in
theorem kw_426 : (Jvm.Cond.instanceMethod ({ cls := "PuppetTheatre$Situation", name := "deactivate", desc := "()V" } : Jvm.MethodName)) ∈ lw_all := pt_all (List.mem_of_getElem? (i := 426) rfl) rfl
set_option maxRecDepth 100000 in
theorem kw_427 : (Jvm.Cond.selects "PuppetTheatre$Situation" ({ cls := "PuppetTheatre$Situation", name := "deactivate", desc := "()V" } : Jvm.MethodName) ({ cls := "PuppetTheatre$Situation", name := "deactivate", desc := "()V" } : Jvm.MethodName)) ∈ lw_all := pt_all (List.mem_of_getElem? (i := 427) rfl) rfl
set_option maxRecDepth 100000 in
theorem kw_428 : (Jvm.Cond.code ({ cls := "PuppetTheatre$Situation", name := "deactivate", desc := "()V" } : Jvm.MethodName) prog_6_method_2_code (2 : Nat) (Option.none : Option Jvm.ClassFile.FieldType)) ∈ lw_all := pt_all (List.mem_of_getElem? (i := 428) rfl) rfl
set_option maxRecDepth 100000 in
theorem kw_429 : (Jvm.Cond.methodLink "PuppetTheatre" (148 : Nat) ({ cls := "PuppetTheatre", name := "setOf", desc := "(I)I" } : Jvm.MethodName)) ∈ lw_all := pt_all (List.mem_of_getElem? (i := 429) rfl) rfl
set_option maxRecDepth 100000 in
theorem kw_430 : (Jvm.Cond.methodLink "PuppetTheatre" (152 : Nat) ({ cls := "PuppetTheatre$Chart", name := "filled", desc := "(I)I" } : Jvm.MethodName)) ∈ lw_all := pt_all (List.mem_of_getElem? (i := 430) rfl) rfl
set_option maxRecDepth 100000 in
theorem kw_431 : (Jvm.Cond.instanceMethod ({ cls := "PuppetTheatre$Chart", name := "filled", desc := "(I)I" } : Jvm.MethodName)) ∈ lw_all := pt_all (List.mem_of_getElem? (i := 431) rfl) rfl
set_option maxRecDepth 100000 in
theorem kw_432 : (Jvm.Cond.selects "PuppetTheatre$Chart" ({ cls := "PuppetTheatre$Chart", name := "filled", desc := "(I)I" } : Jvm.MethodName) ({ cls := "PuppetTheatre$Chart", name := "filled", desc := "(I)I" } : Jvm.MethodName)) ∈ lw_all := pt_all (List.mem_of_getElem? (i := 432) rfl) rfl
set_option maxRecDepth 100000 in
theorem kw_433 : (Jvm.Cond.code ({ cls := "PuppetTheatre$Chart", name := "filled", desc := "(I)I" } : Jvm.MethodName) prog_3_method_6_code (4 : Nat) (Option.some Jvm.ClassFile.FieldType.int)) ∈ lw_all := pt_all (List.mem_of_getElem? (i := 433) rfl) rfl
set_option maxRecDepth 100000 in
theorem kw_434 : (Jvm.Cond.methodLinkNest "PuppetTheatre$Chart" (49 : Nat) ({ cls := "PuppetTheatre", name := "has", desc := "(II)Z" } : Jvm.MethodName) "PuppetTheatre") ∈ lw_all := pt_all (List.mem_of_getElem? (i := 434) rfl) rfl
set_option maxRecDepth 100000 in
theorem kw_435 : (Jvm.Cond.static ({ cls := "PuppetTheatre", name := "has", desc := "(II)Z" } : Jvm.MethodName)) ∈ lw_all := pt_all (List.mem_of_getElem? (i := 435) rfl) rfl
set_option maxRecDepth 100000 in
theorem kw_436 : (Jvm.Cond.code ({ cls := "PuppetTheatre", name := "has", desc := "(II)Z" } : Jvm.MethodName) prog_1_method_49_code (2 : Nat) (Option.some Jvm.ClassFile.FieldType.boolean)) ∈ lw_all := pt_all (List.mem_of_getElem? (i := 436) rfl) rfl
set_option maxRecDepth 100000 in
theorem kw_437 : (Jvm.Cond.methodLink "PuppetTheatre" (155 : Nat) ({ cls := "PuppetTheatre$Play", name := "enter", desc := "(I)V" } : Jvm.MethodName)) ∈ lw_all := pt_all (List.mem_of_getElem? (i := 437) rfl) rfl
set_option maxRecDepth 100000 in
theorem kw_438 : (Jvm.Cond.instanceMethod ({ cls := "PuppetTheatre$Play", name := "enter", desc := "(I)V" } : Jvm.MethodName)) ∈ lw_all := pt_all (List.mem_of_getElem? (i := 438) rfl) rfl
set_option maxRecDepth 100000 in
theorem kw_439 : (Jvm.Cond.selects "PuppetTheatre$Play" ({ cls := "PuppetTheatre$Play", name := "enter", desc := "(I)V" } : Jvm.MethodName) ({ cls := "PuppetTheatre$Play", name := "enter", desc := "(I)V" } : Jvm.MethodName)) ∈ lw_all := pt_all (List.mem_of_getElem? (i := 439) rfl) rfl
set_option maxRecDepth 100000 in
theorem kw_440 : (Jvm.Cond.code ({ cls := "PuppetTheatre$Play", name := "enter", desc := "(I)V" } : Jvm.MethodName) prog_5_method_19_code (3 : Nat) (Option.none : Option Jvm.ClassFile.FieldType)) ∈ lw_all := pt_all (List.mem_of_getElem? (i := 440) rfl) rfl
set_option maxRecDepth 100000 in
theorem kw_441 : (Jvm.Cond.methodLinkNest "PuppetTheatre$Play" (89 : Nat) ({ cls := "PuppetTheatre", name := "has", desc := "(II)Z" } : Jvm.MethodName) "PuppetTheatre") ∈ lw_all := pt_all (List.mem_of_getElem? (i := 441) rfl) rfl
set_option maxRecDepth 100000 in
theorem kw_442 : (Jvm.Cond.methodLinkNest "PuppetTheatre$Play" (143 : Nat) ({ cls := "PuppetTheatre", name := "setOf", desc := "(I)I" } : Jvm.MethodName) "PuppetTheatre") ∈ lw_all := pt_all (List.mem_of_getElem? (i := 442) rfl) rfl
set_option maxRecDepth 100000 in
theorem kw_443 : (Jvm.Cond.methodLink "PuppetTheatre$Play" (126 : Nat) ({ cls := "PuppetTheatre$Play", name := "act", desc := "(LPuppetTheatre$Action;)V" } : Jvm.MethodName)) ∈ lw_all := pt_all (List.mem_of_getElem? (i := 443) rfl) rfl
set_option maxRecDepth 100000 in
theorem kw_445 : (Jvm.Cond.instanceMethod ({ cls := "PuppetTheatre$Play", name := "act", desc := "(LPuppetTheatre$Action;)V" } : Jvm.MethodName)) ∈ lw_all := pt_all (List.mem_of_getElem? (i := 445) rfl) rfl
set_option maxRecDepth 100000 in
theorem kw_446 : (Jvm.Cond.code ({ cls := "PuppetTheatre$Play", name := "act", desc := "(LPuppetTheatre$Action;)V" } : Jvm.MethodName) prog_5_method_21_code (2 : Nat) (Option.none : Option Jvm.ClassFile.FieldType)) ∈ lw_all := pt_all (List.mem_of_getElem? (i := 446) rfl) rfl
set_option maxRecDepth 100000 in
theorem kw_447 : (Jvm.Cond.methodLink "PuppetTheatre$Play" (231 : Nat) ({ cls := "PuppetTheatre$Situation", name := "add", desc := "(II)V" } : Jvm.MethodName)) ∈ lw_all := pt_all (List.mem_of_getElem? (i := 447) rfl) rfl
set_option maxRecDepth 100000 in
theorem kw_448 : (Jvm.Cond.instanceMethod ({ cls := "PuppetTheatre$Situation", name := "add", desc := "(II)V" } : Jvm.MethodName)) ∈ lw_all := pt_all (List.mem_of_getElem? (i := 448) rfl) rfl
set_option maxRecDepth 100000 in
theorem kw_449 : (Jvm.Cond.selects "PuppetTheatre$Situation" ({ cls := "PuppetTheatre$Situation", name := "add", desc := "(II)V" } : Jvm.MethodName) ({ cls := "PuppetTheatre$Situation", name := "add", desc := "(II)V" } : Jvm.MethodName)) ∈ lw_all := pt_all (List.mem_of_getElem? (i := 449) rfl) rfl
set_option maxRecDepth 100000 in
theorem kw_450 : (Jvm.Cond.code ({ cls := "PuppetTheatre$Situation", name := "add", desc := "(II)V" } : Jvm.MethodName) prog_6_method_4_code (4 : Nat) (Option.none : Option Jvm.ClassFile.FieldType)) ∈ lw_all := pt_all (List.mem_of_getElem? (i := 450) rfl) rfl
set_option maxRecDepth 100000 in
theorem kw_451 : (Jvm.Cond.methodLink "PuppetTheatre$Situation" (28 : Nat) ({ cls := "java/lang/Math", name := "min", desc := "(II)I" } : Jvm.MethodName)) ∈ lw_all := pt_all (List.mem_of_getElem? (i := 451) rfl) rfl
set_option maxRecDepth 100000 in
theorem kw_452 : (Jvm.Cond.static ({ cls := "java/lang/Math", name := "min", desc := "(II)I" } : Jvm.MethodName)) ∈ lw_all := pt_all (List.mem_of_getElem? (i := 452) rfl) rfl
set_option maxRecDepth 100000 in
theorem kw_453 : (Jvm.Cond.code ({ cls := "java/lang/Math", name := "min", desc := "(II)I" } : Jvm.MethodName) prog_20_method_69_code (2 : Nat) (Option.some Jvm.ClassFile.FieldType.int)) ∈ lw_all := pt_all (List.mem_of_getElem? (i := 453) rfl) rfl
set_option maxRecDepth 100000 in
theorem kw_454 : (Jvm.Cond.methodLink "PuppetTheatre$Situation" (34 : Nat) ({ cls := "java/lang/Math", name := "max", desc := "(II)I" } : Jvm.MethodName)) ∈ lw_all := pt_all (List.mem_of_getElem? (i := 454) rfl) rfl
set_option maxRecDepth 100000 in
theorem kw_455 : (Jvm.Cond.static ({ cls := "java/lang/Math", name := "max", desc := "(II)I" } : Jvm.MethodName)) ∈ lw_all := pt_all (List.mem_of_getElem? (i := 455) rfl) rfl
set_option maxRecDepth 100000 in
theorem kw_456 : (Jvm.Cond.code ({ cls := "java/lang/Math", name := "max", desc := "(II)I" } : Jvm.MethodName) prog_20_method_65_code (2 : Nat) (Option.some Jvm.ClassFile.FieldType.int)) ∈ lw_all := pt_all (List.mem_of_getElem? (i := 456) rfl) rfl
set_option maxRecDepth 100000 in
theorem kw_457 : (Jvm.Cond.methodLink "PuppetTheatre$Play" (235 : Nat) ({ cls := "PuppetTheatre$Play", name := "raise", desc := "(I)V" } : Jvm.MethodName)) ∈ lw_all := pt_all (List.mem_of_getElem? (i := 457) rfl) rfl
set_option maxRecDepth 100000 in
theorem kw_459 : (Jvm.Cond.instanceMethod ({ cls := "PuppetTheatre$Play", name := "raise", desc := "(I)V" } : Jvm.MethodName)) ∈ lw_all := pt_all (List.mem_of_getElem? (i := 459) rfl) rfl
set_option maxRecDepth 100000 in
theorem kw_460 : (Jvm.Cond.code ({ cls := "PuppetTheatre$Play", name := "raise", desc := "(I)V" } : Jvm.MethodName) prog_5_method_6_code (2 : Nat) (Option.none : Option Jvm.ClassFile.FieldType)) ∈ lw_all := pt_all (List.mem_of_getElem? (i := 460) rfl) rfl
set_option maxRecDepth 100000 in
theorem kw_461 : (Jvm.Cond.methodLink "PuppetTheatre" (158 : Nat) ({ cls := "PuppetTheatre$Play", name := "proceed", desc := "(I)I" } : Jvm.MethodName)) ∈ lw_all := pt_all (List.mem_of_getElem? (i := 461) rfl) rfl
set_option maxRecDepth 100000 in
theorem kw_462 : (Jvm.Cond.instanceMethod ({ cls := "PuppetTheatre$Play", name := "proceed", desc := "(I)I" } : Jvm.MethodName)) ∈ lw_all := pt_all (List.mem_of_getElem? (i := 462) rfl) rfl
set_option maxRecDepth 100000 in
theorem kw_463 : (Jvm.Cond.selects "PuppetTheatre$Play" ({ cls := "PuppetTheatre$Play", name := "proceed", desc := "(I)I" } : Jvm.MethodName) ({ cls := "PuppetTheatre$Play", name := "proceed", desc := "(I)I" } : Jvm.MethodName)) ∈ lw_all := pt_all (List.mem_of_getElem? (i := 463) rfl) rfl
set_option maxRecDepth 100000 in
theorem kw_464 : (Jvm.Cond.code ({ cls := "PuppetTheatre$Play", name := "proceed", desc := "(I)I" } : Jvm.MethodName) prog_5_method_4_code (7 : Nat) (Option.some Jvm.ClassFile.FieldType.int)) ∈ lw_all := pt_all (List.mem_of_getElem? (i := 464) rfl) rfl
set_option maxRecDepth 100000 in
theorem kw_465 : (Jvm.Cond.methodLink "PuppetTheatre$Play" (68 : Nat) ({ cls := "PuppetTheatre$Play", name := "isAtEnd", desc := "()Z" } : Jvm.MethodName)) ∈ lw_all := pt_all (List.mem_of_getElem? (i := 465) rfl) rfl
set_option maxRecDepth 100000 in
theorem kw_466 : (Jvm.Cond.instanceMethod ({ cls := "PuppetTheatre$Play", name := "isAtEnd", desc := "()Z" } : Jvm.MethodName)) ∈ lw_all := pt_all (List.mem_of_getElem? (i := 466) rfl) rfl
set_option maxRecDepth 100000 in
theorem kw_467 : (Jvm.Cond.selects "PuppetTheatre$Play" ({ cls := "PuppetTheatre$Play", name := "isAtEnd", desc := "()Z" } : Jvm.MethodName) ({ cls := "PuppetTheatre$Play", name := "isAtEnd", desc := "()Z" } : Jvm.MethodName)) ∈ lw_all := pt_all (List.mem_of_getElem? (i := 467) rfl) rfl
set_option maxRecDepth 100000 in
theorem kw_468 : (Jvm.Cond.code ({ cls := "PuppetTheatre$Play", name := "isAtEnd", desc := "()Z" } : Jvm.MethodName) prog_5_method_3_code (1 : Nat) (Option.some Jvm.ClassFile.FieldType.boolean)) ∈ lw_all := pt_all (List.mem_of_getElem? (i := 468) rfl) rfl
set_option maxRecDepth 100000 in
theorem kw_469 : (Jvm.Cond.methodLink "PuppetTheatre$Play" (72 : Nat) ({ cls := "PuppetTheatre$Play", name := "loseQueue", desc := "()V" } : Jvm.MethodName)) ∈ lw_all := pt_all (List.mem_of_getElem? (i := 469) rfl) rfl
set_option maxRecDepth 100000 in
theorem kw_471 : (Jvm.Cond.instanceMethod ({ cls := "PuppetTheatre$Play", name := "loseQueue", desc := "()V" } : Jvm.MethodName)) ∈ lw_all := pt_all (List.mem_of_getElem? (i := 471) rfl) rfl
set_option maxRecDepth 100000 in
theorem kw_472 : (Jvm.Cond.code ({ cls := "PuppetTheatre$Play", name := "loseQueue", desc := "()V" } : Jvm.MethodName) prog_5_method_7_code (1 : Nat) (Option.none : Option Jvm.ClassFile.FieldType)) ∈ lw_all := pt_all (List.mem_of_getElem? (i := 472) rfl) rfl
set_option maxRecDepth 100000 in
theorem kw_473 : (Jvm.Cond.methodLink "PuppetTheatre$Play" (75 : Nat) ({ cls := "PuppetTheatre$Play", name := "growOlder", desc := "()V" } : Jvm.MethodName)) ∈ lw_all := pt_all (List.mem_of_getElem? (i := 473) rfl) rfl
set_option maxRecDepth 100000 in
theorem kw_475 : (Jvm.Cond.instanceMethod ({ cls := "PuppetTheatre$Play", name := "growOlder", desc := "()V" } : Jvm.MethodName)) ∈ lw_all := pt_all (List.mem_of_getElem? (i := 475) rfl) rfl
set_option maxRecDepth 100000 in
theorem kw_476 : (Jvm.Cond.code ({ cls := "PuppetTheatre$Play", name := "growOlder", desc := "()V" } : Jvm.MethodName) prog_5_method_5_code (2 : Nat) (Option.none : Option Jvm.ClassFile.FieldType)) ∈ lw_all := pt_all (List.mem_of_getElem? (i := 476) rfl) rfl
set_option maxRecDepth 100000 in
theorem kw_477 : (Jvm.Cond.methodLink "PuppetTheatre$Play" (78 : Nat) ({ cls := "PuppetTheatre$Play", name := "step", desc := "(I)I" } : Jvm.MethodName)) ∈ lw_all := pt_all (List.mem_of_getElem? (i := 477) rfl) rfl
set_option maxRecDepth 100000 in
theorem kw_479 : (Jvm.Cond.instanceMethod ({ cls := "PuppetTheatre$Play", name := "step", desc := "(I)I" } : Jvm.MethodName)) ∈ lw_all := pt_all (List.mem_of_getElem? (i := 479) rfl) rfl
set_option maxRecDepth 100000 in
theorem kw_480 : (Jvm.Cond.code ({ cls := "PuppetTheatre$Play", name := "step", desc := "(I)I" } : Jvm.MethodName) prog_5_method_9_code (7 : Nat) (Option.some Jvm.ClassFile.FieldType.int)) ∈ lw_all := pt_all (List.mem_of_getElem? (i := 480) rfl) rfl
set_option maxRecDepth 100000 in
theorem kw_481 : (Jvm.Cond.methodLink "PuppetTheatre$Play" (96 : Nat) ({ cls := "PuppetTheatre$Play", name := "openBy", desc := "(I)I" } : Jvm.MethodName)) ∈ lw_all := pt_all (List.mem_of_getElem? (i := 481) rfl) rfl
set_option maxRecDepth 100000 in
theorem kw_482 : (Jvm.Cond.instanceMethod ({ cls := "PuppetTheatre$Play", name := "openBy", desc := "(I)I" } : Jvm.MethodName)) ∈ lw_all := pt_all (List.mem_of_getElem? (i := 482) rfl) rfl
set_option maxRecDepth 100000 in
theorem kw_483 : (Jvm.Cond.selects "PuppetTheatre$Play" ({ cls := "PuppetTheatre$Play", name := "openBy", desc := "(I)I" } : Jvm.MethodName) ({ cls := "PuppetTheatre$Play", name := "openBy", desc := "(I)I" } : Jvm.MethodName)) ∈ lw_all := pt_all (List.mem_of_getElem? (i := 483) rfl) rfl
set_option maxRecDepth 100000 in
theorem kw_484 : (Jvm.Cond.code ({ cls := "PuppetTheatre$Play", name := "openBy", desc := "(I)I" } : Jvm.MethodName) prog_5_method_10_code (6 : Nat) (Option.some Jvm.ClassFile.FieldType.int)) ∈ lw_all := pt_all (List.mem_of_getElem? (i := 484) rfl) rfl
set_option maxRecDepth 100000 in
theorem kw_485 : (Jvm.Cond.methodLink "PuppetTheatre$Play" (152 : Nat) ({ cls := "PuppetTheatre$Chart", name := "endedAmong", desc := "(I)I" } : Jvm.MethodName)) ∈ lw_all := pt_all (List.mem_of_getElem? (i := 485) rfl) rfl
set_option maxRecDepth 100000 in
theorem kw_486 : (Jvm.Cond.instanceMethod ({ cls := "PuppetTheatre$Chart", name := "endedAmong", desc := "(I)I" } : Jvm.MethodName)) ∈ lw_all := pt_all (List.mem_of_getElem? (i := 486) rfl) rfl
set_option maxRecDepth 100000 in
theorem kw_487 : (Jvm.Cond.selects "PuppetTheatre$Chart" ({ cls := "PuppetTheatre$Chart", name := "endedAmong", desc := "(I)I" } : Jvm.MethodName) ({ cls := "PuppetTheatre$Chart", name := "endedAmong", desc := "(I)I" } : Jvm.MethodName)) ∈ lw_all := pt_all (List.mem_of_getElem? (i := 487) rfl) rfl
set_option maxRecDepth 100000 in
theorem kw_488 : (Jvm.Cond.code ({ cls := "PuppetTheatre$Chart", name := "endedAmong", desc := "(I)I" } : Jvm.MethodName) prog_3_method_9_code (7 : Nat) (Option.some Jvm.ClassFile.FieldType.int)) ∈ lw_all := pt_all (List.mem_of_getElem? (i := 488) rfl) rfl
set_option maxRecDepth 100000 in
theorem kw_489 : (Jvm.Cond.methodLink "PuppetTheatre$Play" (158 : Nat) ({ cls := "PuppetTheatre$Play", name := "isOpen", desc := "(LPuppetTheatre$Transition;I)Z" } : Jvm.MethodName)) ∈ lw_all := pt_all (List.mem_of_getElem? (i := 489) rfl) rfl
set_option maxRecDepth 100000 in
theorem kw_491 : (Jvm.Cond.instanceMethod ({ cls := "PuppetTheatre$Play", name := "isOpen", desc := "(LPuppetTheatre$Transition;I)Z" } : Jvm.MethodName)) ∈ lw_all := pt_all (List.mem_of_getElem? (i := 491) rfl) rfl
set_option maxRecDepth 100000 in
theorem kw_492 : (Jvm.Cond.code ({ cls := "PuppetTheatre$Play", name := "isOpen", desc := "(LPuppetTheatre$Transition;I)Z" } : Jvm.MethodName) prog_5_method_11_code (3 : Nat) (Option.some Jvm.ClassFile.FieldType.boolean)) ∈ lw_all := pt_all (List.mem_of_getElem? (i := 492) rfl) rfl
set_option maxRecDepth 100000 in
theorem kw_493 : (Jvm.Cond.methodLink "PuppetTheatre$Play" (168 : Nat) ({ cls := "PuppetTheatre$Transition", name := "isAllowed", desc := "([I)Z" } : Jvm.MethodName)) ∈ lw_all := pt_all (List.mem_of_getElem? (i := 493) rfl) rfl
set_option maxRecDepth 100000 in
theorem kw_494 : (Jvm.Cond.instanceMethod ({ cls := "PuppetTheatre$Transition", name := "isAllowed", desc := "([I)Z" } : Jvm.MethodName)) ∈ lw_all := pt_all (List.mem_of_getElem? (i := 494) rfl) rfl
set_option maxRecDepth 100000 in
theorem kw_495 : (Jvm.Cond.selects "PuppetTheatre$Transition" ({ cls := "PuppetTheatre$Transition", name := "isAllowed", desc := "([I)Z" } : Jvm.MethodName) ({ cls := "PuppetTheatre$Transition", name := "isAllowed", desc := "([I)Z" } : Jvm.MethodName)) ∈ lw_all := pt_all (List.mem_of_getElem? (i := 495) rfl) rfl
set_option maxRecDepth 100000 in
theorem kw_496 : (Jvm.Cond.code ({ cls := "PuppetTheatre$Transition", name := "isAllowed", desc := "([I)Z" } : Jvm.MethodName) prog_8_method_2_code (2 : Nat) (Option.some Jvm.ClassFile.FieldType.boolean)) ∈ lw_all := pt_all (List.mem_of_getElem? (i := 496) rfl) rfl
set_option maxRecDepth 100000 in
theorem kw_497 : (Jvm.Cond.methodLink "PuppetTheatre$Play" (99 : Nat) ({ cls := "PuppetTheatre$Play", name := "choose", desc := "(I)V" } : Jvm.MethodName)) ∈ lw_all := pt_all (List.mem_of_getElem? (i := 497) rfl) rfl
set_option maxRecDepth 100000 in
theorem kw_499 : (Jvm.Cond.instanceMethod ({ cls := "PuppetTheatre$Play", name := "choose", desc := "(I)V" } : Jvm.MethodName)) ∈ lw_all := pt_all (List.mem_of_getElem? (i := 499) rfl) rfl
