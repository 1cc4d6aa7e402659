-- the places of the words
set_option maxRecDepth 100000 in
theorem kw_500 : (Jvm.Cond.code ({ cls := "PuppetTheatre$Play", name := "choose", desc := "(I)V" } : Jvm.MethodName) prog_5_method_12_code (6 : Nat) (Option.none : Option Jvm.ClassFile.FieldType)) ∈ lw_all := pt_all (List.mem_of_getElem? (i := 500) rfl) rfl
set_option maxRecDepth 100000 in
theorem kw_501 : (Jvm.Cond.methodLink "PuppetTheatre$Play" (181 : Nat) ({ cls := "PuppetTheatre$Play", name := "nearestOpen", desc := "(II)I" } : Jvm.MethodName)) ∈ lw_all := pt_all (List.mem_of_getElem? (i := 501) rfl) rfl
set_option maxRecDepth 100000 in
theorem kw_503 : (Jvm.Cond.instanceMethod ({ cls := "PuppetTheatre$Play", name := "nearestOpen", desc := "(II)I" } : Jvm.MethodName)) ∈ lw_all := pt_all (List.mem_of_getElem? (i := 503) rfl) rfl
set_option maxRecDepth 100000 in
theorem kw_504 : (Jvm.Cond.code ({ cls := "PuppetTheatre$Play", name := "nearestOpen", desc := "(II)I" } : Jvm.MethodName) prog_5_method_13_code (5 : Nat) (Option.some Jvm.ClassFile.FieldType.int)) ∈ lw_all := pt_all (List.mem_of_getElem? (i := 504) rfl) rfl
set_option maxRecDepth 100000 in
theorem kw_505 : (Jvm.Cond.methodLink "PuppetTheatre$Play" (193 : Nat) ({ cls := "PuppetTheatre$Play", name := "smallestOf", desc := "(I)I" } : Jvm.MethodName)) ∈ lw_all := pt_all (List.mem_of_getElem? (i := 505) rfl) rfl
set_option maxRecDepth 100000 in
theorem kw_506 : (Jvm.Cond.static ({ cls := "PuppetTheatre$Play", name := "smallestOf", desc := "(I)I" } : Jvm.MethodName)) ∈ lw_all := pt_all (List.mem_of_getElem? (i := 506) rfl) rfl
set_option maxRecDepth 100000 in
theorem kw_507 : (Jvm.Cond.code ({ cls := "PuppetTheatre$Play", name := "smallestOf", desc := "(I)I" } : Jvm.MethodName) prog_5_method_14_code (1 : Nat) (Option.some Jvm.ClassFile.FieldType.int)) ∈ lw_all := pt_all (List.mem_of_getElem? (i := 507) rfl) rfl
set_option maxRecDepth 100000 in
theorem kw_508 : (Jvm.Cond.methodLink "PuppetTheatre$Play" (196 : Nat) ({ cls := "java/lang/Integer", name := "bitCount", desc := "(I)I" } : Jvm.MethodName)) ∈ lw_all := pt_all (List.mem_of_getElem? (i := 508) rfl) rfl
set_option maxRecDepth 100000 in
theorem kw_509 : (Jvm.Cond.static ({ cls := "java/lang/Integer", name := "bitCount", desc := "(I)I" } : Jvm.MethodName)) ∈ lw_all := pt_all (List.mem_of_getElem? (i := 509) rfl) rfl
set_option maxRecDepth 100000 in
theorem kw_510 : (Jvm.Cond.code ({ cls := "java/lang/Integer", name := "bitCount", desc := "(I)I" } : Jvm.MethodName) prog_19_method_49_code (1 : Nat) (Option.some Jvm.ClassFile.FieldType.int)) ∈ lw_all := pt_all (List.mem_of_getElem? (i := 510) rfl) rfl
set_option maxRecDepth 100000 in
theorem kw_511 : (Jvm.Cond.constant "java/lang/Integer" (265 : Nat) (1431655765 : Int32)) ∈ lw_all := pt_all (List.mem_of_getElem? (i := 511) rfl) rfl
set_option maxRecDepth 100000 in
theorem kw_512 : (Jvm.Cond.constant "java/lang/Integer" (266 : Nat) (858993459 : Int32)) ∈ lw_all := pt_all (List.mem_of_getElem? (i := 512) rfl) rfl
set_option maxRecDepth 100000 in
theorem kw_513 : (Jvm.Cond.constant "java/lang/Integer" (267 : Nat) (252645135 : Int32)) ∈ lw_all := pt_all (List.mem_of_getElem? (i := 513) rfl) rfl
set_option maxRecDepth 100000 in
theorem kw_514 : (Jvm.Cond.methodLink "PuppetTheatre$Play" (184 : Nat) ({ cls := "PuppetTheatre$Play", name := "takeIfFree", desc := "(I)V" } : Jvm.MethodName)) ∈ lw_all := pt_all (List.mem_of_getElem? (i := 514) rfl) rfl
set_option maxRecDepth 100000 in
theorem kw_516 : (Jvm.Cond.instanceMethod ({ cls := "PuppetTheatre$Play", name := "takeIfFree", desc := "(I)V" } : Jvm.MethodName)) ∈ lw_all := pt_all (List.mem_of_getElem? (i := 516) rfl) rfl
set_option maxRecDepth 100000 in
theorem kw_517 : (Jvm.Cond.code ({ cls := "PuppetTheatre$Play", name := "takeIfFree", desc := "(I)V" } : Jvm.MethodName) prog_5_method_15_code (6 : Nat) (Option.none : Option Jvm.ClassFile.FieldType)) ∈ lw_all := pt_all (List.mem_of_getElem? (i := 517) rfl) rfl
set_option maxRecDepth 100000 in
theorem kw_518 : (Jvm.Cond.methodLink "PuppetTheatre$Play" (110 : Nat) ({ cls := "PuppetTheatre$Play", name := "leftBy", desc := "(LPuppetTheatre$Transition;)I" } : Jvm.MethodName)) ∈ lw_all := pt_all (List.mem_of_getElem? (i := 518) rfl) rfl
set_option maxRecDepth 100000 in
theorem kw_520 : (Jvm.Cond.instanceMethod ({ cls := "PuppetTheatre$Play", name := "leftBy", desc := "(LPuppetTheatre$Transition;)I" } : Jvm.MethodName)) ∈ lw_all := pt_all (List.mem_of_getElem? (i := 520) rfl) rfl
set_option maxRecDepth 100000 in
theorem kw_521 : (Jvm.Cond.code ({ cls := "PuppetTheatre$Play", name := "leftBy", desc := "(LPuppetTheatre$Transition;)I" } : Jvm.MethodName) prog_5_method_16_code (2 : Nat) (Option.some Jvm.ClassFile.FieldType.int)) ∈ lw_all := pt_all (List.mem_of_getElem? (i := 521) rfl) rfl
set_option maxRecDepth 100000 in
theorem kw_522 : (Jvm.Cond.methodLink "PuppetTheatre$Play" (114 : Nat) ({ cls := "PuppetTheatre$Play", name := "makeRecords", desc := "(I)V" } : Jvm.MethodName)) ∈ lw_all := pt_all (List.mem_of_getElem? (i := 522) rfl) rfl
set_option maxRecDepth 100000 in
theorem kw_524 : (Jvm.Cond.instanceMethod ({ cls := "PuppetTheatre$Play", name := "makeRecords", desc := "(I)V" } : Jvm.MethodName)) ∈ lw_all := pt_all (List.mem_of_getElem? (i := 524) rfl) rfl
set_option maxRecDepth 100000 in
theorem kw_525 : (Jvm.Cond.code ({ cls := "PuppetTheatre$Play", name := "makeRecords", desc := "(I)V" } : Jvm.MethodName) prog_5_method_17_code (6 : Nat) (Option.none : Option Jvm.ClassFile.FieldType)) ∈ lw_all := pt_all (List.mem_of_getElem? (i := 525) rfl) rfl
set_option maxRecDepth 100000 in
theorem kw_526 : (Jvm.Cond.methodLink "PuppetTheatre$Play" (201 : Nat) ({ cls := "PuppetTheatre$State", name := "isMark", desc := "()Z" } : Jvm.MethodName)) ∈ lw_all := pt_all (List.mem_of_getElem? (i := 526) rfl) rfl
set_option maxRecDepth 100000 in
theorem kw_527 : (Jvm.Cond.instanceMethod ({ cls := "PuppetTheatre$State", name := "isMark", desc := "()Z" } : Jvm.MethodName)) ∈ lw_all := pt_all (List.mem_of_getElem? (i := 527) rfl) rfl
set_option maxRecDepth 100000 in
theorem kw_528 : (Jvm.Cond.selects "PuppetTheatre$State" ({ cls := "PuppetTheatre$State", name := "isMark", desc := "()Z" } : Jvm.MethodName) ({ cls := "PuppetTheatre$State", name := "isMark", desc := "()Z" } : Jvm.MethodName)) ∈ lw_all := pt_all (List.mem_of_getElem? (i := 528) rfl) rfl
set_option maxRecDepth 100000 in
theorem kw_529 : (Jvm.Cond.code ({ cls := "PuppetTheatre$State", name := "isMark", desc := "()Z" } : Jvm.MethodName) prog_7_method_2_code (1 : Nat) (Option.some Jvm.ClassFile.FieldType.boolean)) ∈ lw_all := pt_all (List.mem_of_getElem? (i := 529) rfl) rfl
set_option maxRecDepth 100000 in
theorem kw_530 : (Jvm.Cond.methodLink "PuppetTheatre$Play" (117 : Nat) ({ cls := "PuppetTheatre$Play", name := "leave", desc := "(I)V" } : Jvm.MethodName)) ∈ lw_all := pt_all (List.mem_of_getElem? (i := 530) rfl) rfl
set_option maxRecDepth 100000 in
theorem kw_532 : (Jvm.Cond.instanceMethod ({ cls := "PuppetTheatre$Play", name := "leave", desc := "(I)V" } : Jvm.MethodName)) ∈ lw_all := pt_all (List.mem_of_getElem? (i := 532) rfl) rfl
set_option maxRecDepth 100000 in
theorem kw_533 : (Jvm.Cond.code ({ cls := "PuppetTheatre$Play", name := "leave", desc := "(I)V" } : Jvm.MethodName) prog_5_method_18_code (3 : Nat) (Option.none : Option Jvm.ClassFile.FieldType)) ∈ lw_all := pt_all (List.mem_of_getElem? (i := 533) rfl) rfl
set_option maxRecDepth 100000 in
theorem kw_534 : (Jvm.Cond.methodLink "PuppetTheatre$Play" (133 : Nat) ({ cls := "PuppetTheatre$Play", name := "targetsOf", desc := "(LPuppetTheatre$Transition;)I" } : Jvm.MethodName)) ∈ lw_all := pt_all (List.mem_of_getElem? (i := 534) rfl) rfl
set_option maxRecDepth 100000 in
theorem kw_536 : (Jvm.Cond.instanceMethod ({ cls := "PuppetTheatre$Play", name := "targetsOf", desc := "(LPuppetTheatre$Transition;)I" } : Jvm.MethodName)) ∈ lw_all := pt_all (List.mem_of_getElem? (i := 536) rfl) rfl
set_option maxRecDepth 100000 in
theorem kw_537 : (Jvm.Cond.code ({ cls := "PuppetTheatre$Play", name := "targetsOf", desc := "(LPuppetTheatre$Transition;)I" } : Jvm.MethodName) prog_5_method_20_code (3 : Nat) (Option.some Jvm.ClassFile.FieldType.int)) ∈ lw_all := pt_all (List.mem_of_getElem? (i := 537) rfl) rfl
set_option maxRecDepth 100000 in
theorem kw_538 : (Jvm.Cond.methodLink "PuppetTheatre$Play" (139 : Nat) ({ cls := "PuppetTheatre$Chart", name := "enteredInto", desc := "(II)I" } : Jvm.MethodName)) ∈ lw_all := pt_all (List.mem_of_getElem? (i := 538) rfl) rfl
set_option maxRecDepth 100000 in
theorem kw_539 : (Jvm.Cond.instanceMethod ({ cls := "PuppetTheatre$Chart", name := "enteredInto", desc := "(II)I" } : Jvm.MethodName)) ∈ lw_all := pt_all (List.mem_of_getElem? (i := 539) rfl) rfl
set_option maxRecDepth 100000 in
theorem kw_540 : (Jvm.Cond.selects "PuppetTheatre$Chart" ({ cls := "PuppetTheatre$Chart", name := "enteredInto", desc := "(II)I" } : Jvm.MethodName) ({ cls := "PuppetTheatre$Chart", name := "enteredInto", desc := "(II)I" } : Jvm.MethodName)) ∈ lw_all := pt_all (List.mem_of_getElem? (i := 540) rfl) rfl
set_option maxRecDepth 100000 in
theorem kw_541 : (Jvm.Cond.code ({ cls := "PuppetTheatre$Chart", name := "enteredInto", desc := "(II)I" } : Jvm.MethodName) prog_3_method_7_code (6 : Nat) (Option.some Jvm.ClassFile.FieldType.int)) ∈ lw_all := pt_all (List.mem_of_getElem? (i := 541) rfl) rfl
set_option maxRecDepth 100000 in
theorem kw_542 : (Jvm.Cond.methodLink "PuppetTheatre$Chart" (95 : Nat) ({ cls := "PuppetTheatre$Chart", name := "partsAside", desc := "(II)I" } : Jvm.MethodName)) ∈ lw_all := pt_all (List.mem_of_getElem? (i := 542) rfl) rfl
set_option maxRecDepth 100000 in
theorem kw_544 : (Jvm.Cond.instanceMethod ({ cls := "PuppetTheatre$Chart", name := "partsAside", desc := "(II)I" } : Jvm.MethodName)) ∈ lw_all := pt_all (List.mem_of_getElem? (i := 544) rfl) rfl
set_option maxRecDepth 100000 in
theorem kw_545 : (Jvm.Cond.code ({ cls := "PuppetTheatre$Chart", name := "partsAside", desc := "(II)I" } : Jvm.MethodName) prog_3_method_8_code (5 : Nat) (Option.some Jvm.ClassFile.FieldType.int)) ∈ lw_all := pt_all (List.mem_of_getElem? (i := 545) rfl) rfl
set_option maxRecDepth 100000 in
theorem kw_546 : (Jvm.Cond.methodLink "PuppetTheatre$Chart" (98 : Nat) ({ cls := "PuppetTheatre$Chart", name := "filled", desc := "(I)I" } : Jvm.MethodName)) ∈ lw_all := pt_all (List.mem_of_getElem? (i := 546) rfl) rfl
set_option maxRecDepth 100000 in
theorem kw_547 : (Jvm.Cond.methodLink "PuppetTheatre$Play" (146 : Nat) ({ cls := "PuppetTheatre$Play", name := "enter", desc := "(I)V" } : Jvm.MethodName)) ∈ lw_all := pt_all (List.mem_of_getElem? (i := 547) rfl) rfl
set_option maxRecDepth 100000 in
theorem kw_548 : (Jvm.Cond.methodLink "PuppetTheatre$Play" (82 : Nat) ({ cls := "PuppetTheatre$Play", name := "nextEvent", desc := "()I" } : Jvm.MethodName)) ∈ lw_all := pt_all (List.mem_of_getElem? (i := 548) rfl) rfl
set_option maxRecDepth 100000 in
theorem kw_550 : (Jvm.Cond.instanceMethod ({ cls := "PuppetTheatre$Play", name := "nextEvent", desc := "()I" } : Jvm.MethodName)) ∈ lw_all := pt_all (List.mem_of_getElem? (i := 550) rfl) rfl
set_option maxRecDepth 100000 in
theorem kw_551 : (Jvm.Cond.code ({ cls := "PuppetTheatre$Play", name := "nextEvent", desc := "()I" } : Jvm.MethodName) prog_5_method_8_code (3 : Nat) (Option.some Jvm.ClassFile.FieldType.int)) ∈ lw_all := pt_all (List.mem_of_getElem? (i := 551) rfl) rfl
set_option maxRecDepth 100000 in
theorem kw_552 : (Jvm.Cond.methodLink "PuppetTheatreLaw" (95 : Nat) ({ cls := "PuppetTheatre", name := "send", desc := "(I)I" } : Jvm.MethodName)) ∈ lw_all := pt_all (List.mem_of_getElem? (i := 552) rfl) rfl
set_option maxRecDepth 100000 in
theorem kw_553 : (Jvm.Cond.instanceMethod ({ cls := "PuppetTheatre", name := "send", desc := "(I)I" } : Jvm.MethodName)) ∈ lw_all := pt_all (List.mem_of_getElem? (i := 553) rfl) rfl
set_option maxRecDepth 100000 in
theorem kw_554 : (Jvm.Cond.selects "PuppetTheatre" ({ cls := "PuppetTheatre", name := "send", desc := "(I)I" } : Jvm.MethodName) ({ cls := "PuppetTheatre", name := "send", desc := "(I)I" } : Jvm.MethodName)) ∈ lw_all := pt_all (List.mem_of_getElem? (i := 554) rfl) rfl
set_option maxRecDepth 100000 in
theorem kw_555 : (Jvm.Cond.code ({ cls := "PuppetTheatre", name := "send", desc := "(I)I" } : Jvm.MethodName) prog_1_method_10_code (2 : Nat) (Option.some Jvm.ClassFile.FieldType.int)) ∈ lw_all := pt_all (List.mem_of_getElem? (i := 555) rfl) rfl
set_option maxRecDepth 100000 in
theorem kw_556 : (Jvm.Cond.methodLink "PuppetTheatre" (161 : Nat) ({ cls := "PuppetTheatre", name := "checkRunning", desc := "()V" } : Jvm.MethodName)) ∈ lw_all := pt_all (List.mem_of_getElem? (i := 556) rfl) rfl
set_option maxRecDepth 100000 in
theorem kw_558 : (Jvm.Cond.instanceMethod ({ cls := "PuppetTheatre", name := "checkRunning", desc := "()V" } : Jvm.MethodName)) ∈ lw_all := pt_all (List.mem_of_getElem? (i := 558) rfl) rfl
set_option maxRecDepth 100000 in
theorem kw_559 : (Jvm.Cond.code ({ cls := "PuppetTheatre", name := "checkRunning", desc := "()V" } : Jvm.MethodName) prog_1_method_38_code (1 : Nat) (Option.none : Option Jvm.ClassFile.FieldType)) ∈ lw_all := pt_all (List.mem_of_getElem? (i := 559) rfl) rfl
set_option maxRecDepth 100000 in
theorem kw_560 : (Jvm.Cond.methodLink "PuppetTheatre" (181 : Nat) ({ cls := "PuppetTheatre", name := "checkEvent", desc := "(I)V" } : Jvm.MethodName)) ∈ lw_all := pt_all (List.mem_of_getElem? (i := 560) rfl) rfl
set_option maxRecDepth 100000 in
theorem kw_561 : (Jvm.Cond.static ({ cls := "PuppetTheatre", name := "checkEvent", desc := "(I)V" } : Jvm.MethodName)) ∈ lw_all := pt_all (List.mem_of_getElem? (i := 561) rfl) rfl
set_option maxRecDepth 100000 in
theorem kw_562 : (Jvm.Cond.code ({ cls := "PuppetTheatre", name := "checkEvent", desc := "(I)V" } : Jvm.MethodName) prog_1_method_41_code (1 : Nat) (Option.none : Option Jvm.ClassFile.FieldType)) ∈ lw_all := pt_all (List.mem_of_getElem? (i := 562) rfl) rfl
set_option maxRecDepth 100000 in
theorem kw_563 : (Jvm.Cond.methodLink "PuppetTheatre" (52 : Nat) ({ cls := "PuppetTheatre", name := "isWithin", desc := "(III)Z" } : Jvm.MethodName)) ∈ lw_all := pt_all (List.mem_of_getElem? (i := 563) rfl) rfl
set_option maxRecDepth 100000 in
theorem kw_564 : (Jvm.Cond.static ({ cls := "PuppetTheatre", name := "isWithin", desc := "(III)Z" } : Jvm.MethodName)) ∈ lw_all := pt_all (List.mem_of_getElem? (i := 564) rfl) rfl
set_option maxRecDepth 100000 in
theorem kw_565 : (Jvm.Cond.code ({ cls := "PuppetTheatre", name := "isWithin", desc := "(III)Z" } : Jvm.MethodName) prog_1_method_47_code (3 : Nat) (Option.some Jvm.ClassFile.FieldType.boolean)) ∈ lw_all := pt_all (List.mem_of_getElem? (i := 565) rfl) rfl
set_option maxRecDepth 100000 in
theorem kw_581 : (Jvm.Cond.methodLink "PuppetTheatreLaw" (98 : Nat) ({ cls := "PuppetTheatre", name := "tick", desc := "(I)I" } : Jvm.MethodName)) ∈ lw_all := pt_all (List.mem_of_getElem? (i := 581) rfl) rfl
set_option maxRecDepth 100000 in
theorem kw_582 : (Jvm.Cond.instanceMethod ({ cls := "PuppetTheatre", name := "tick", desc := "(I)I" } : Jvm.MethodName)) ∈ lw_all := pt_all (List.mem_of_getElem? (i := 582) rfl) rfl
set_option maxRecDepth 100000 in
theorem kw_583 : (Jvm.Cond.selects "PuppetTheatre" ({ cls := "PuppetTheatre", name := "tick", desc := "(I)I" } : Jvm.MethodName) ({ cls := "PuppetTheatre", name := "tick", desc := "(I)I" } : Jvm.MethodName)) ∈ lw_all := pt_all (List.mem_of_getElem? (i := 583) rfl) rfl
set_option maxRecDepth 100000 in
theorem kw_584 : (Jvm.Cond.code ({ cls := "PuppetTheatre", name := "tick", desc := "(I)I" } : Jvm.MethodName) prog_1_method_11_code (4 : Nat) (Option.some Jvm.ClassFile.FieldType.int)) ∈ lw_all := pt_all (List.mem_of_getElem? (i := 584) rfl) rfl
set_option maxRecDepth 100000 in
theorem kw_585 : (Jvm.Cond.methodLink "PuppetTheatreLaw" (101 : Nat) ({ cls := "PuppetTheatre", name := "transitions", desc := "()I" } : Jvm.MethodName)) ∈ lw_all := pt_all (List.mem_of_getElem? (i := 585) rfl) rfl
set_option maxRecDepth 100000 in
theorem kw_586 : (Jvm.Cond.instanceMethod ({ cls := "PuppetTheatre", name := "transitions", desc := "()I" } : Jvm.MethodName)) ∈ lw_all := pt_all (List.mem_of_getElem? (i := 586) rfl) rfl
set_option maxRecDepth 100000 in
theorem kw_587 : (Jvm.Cond.selects "PuppetTheatre" ({ cls := "PuppetTheatre", name := "transitions", desc := "()I" } : Jvm.MethodName) ({ cls := "PuppetTheatre", name := "transitions", desc := "()I" } : Jvm.MethodName)) ∈ lw_all := pt_all (List.mem_of_getElem? (i := 587) rfl) rfl
set_option maxRecDepth 100000 in
theorem kw_588 : (Jvm.Cond.code ({ cls := "PuppetTheatre", name := "transitions", desc := "()I" } : Jvm.MethodName) prog_1_method_13_code (1 : Nat) (Option.some Jvm.ClassFile.FieldType.int)) ∈ lw_all := pt_all (List.mem_of_getElem? (i := 588) rfl) rfl
set_option maxRecDepth 100000 in
theorem kw_589 : (Jvm.Cond.methodLink "PuppetTheatreLaw" (44 : Nat) ({ cls := "PuppetTheatre", name := "active", desc := "()I" } : Jvm.MethodName)) ∈ lw_all := pt_all (List.mem_of_getElem? (i := 589) rfl) rfl
set_option maxRecDepth 100000 in
theorem kw_590 : (Jvm.Cond.instanceMethod ({ cls := "PuppetTheatre", name := "active", desc := "()I" } : Jvm.MethodName)) ∈ lw_all := pt_all (List.mem_of_getElem? (i := 590) rfl) rfl
set_option maxRecDepth 100000 in
theorem kw_591 : (Jvm.Cond.selects "PuppetTheatre" ({ cls := "PuppetTheatre", name := "active", desc := "()I" } : Jvm.MethodName) ({ cls := "PuppetTheatre", name := "active", desc := "()I" } : Jvm.MethodName)) ∈ lw_all := pt_all (List.mem_of_getElem? (i := 591) rfl) rfl
set_option maxRecDepth 100000 in
theorem kw_592 : (Jvm.Cond.code ({ cls := "PuppetTheatre", name := "active", desc := "()I" } : Jvm.MethodName) prog_1_method_16_code (1 : Nat) (Option.some Jvm.ClassFile.FieldType.int)) ∈ lw_all := pt_all (List.mem_of_getElem? (i := 592) rfl) rfl
set_option maxRecDepth 100000 in
theorem kw_593 : (Jvm.Cond.methodLink "PuppetTheatreLaw" (88 : Nat) ({ cls := "PuppetTheatre", name := "isOver", desc := "()Z" } : Jvm.MethodName)) ∈ lw_all := pt_all (List.mem_of_getElem? (i := 593) rfl) rfl
set_option maxRecDepth 100000 in
theorem kw_594 : (Jvm.Cond.instanceMethod ({ cls := "PuppetTheatre", name := "isOver", desc := "()Z" } : Jvm.MethodName)) ∈ lw_all := pt_all (List.mem_of_getElem? (i := 594) rfl) rfl
set_option maxRecDepth 100000 in
theorem kw_595 : (Jvm.Cond.selects "PuppetTheatre" ({ cls := "PuppetTheatre", name := "isOver", desc := "()Z" } : Jvm.MethodName) ({ cls := "PuppetTheatre", name := "isOver", desc := "()Z" } : Jvm.MethodName)) ∈ lw_all := pt_all (List.mem_of_getElem? (i := 595) rfl) rfl
set_option maxRecDepth 100000 in
theorem kw_596 : (Jvm.Cond.code ({ cls := "PuppetTheatre", name := "isOver", desc := "()Z" } : Jvm.MethodName) prog_1_method_17_code (1 : Nat) (Option.some Jvm.ClassFile.FieldType.boolean)) ∈ lw_all := pt_all (List.mem_of_getElem? (i := 596) rfl) rfl
set_option maxRecDepth 100000 in
theorem kw_597 : (Jvm.Cond.methodLink "PuppetTheatre" (187 : Nat) ({ cls := "PuppetTheatre$Play", name := "isAtEnd", desc := "()Z" } : Jvm.MethodName)) ∈ lw_all := pt_all (List.mem_of_getElem? (i := 597) rfl) rfl
set_option maxRecDepth 100000 in
theorem kw_598 : (Jvm.Cond.methodLink "PuppetTheatreLaw" (110 : Nat) ({ cls := "PuppetTheatre", name := "isEnded", desc := "(I)Z" } : Jvm.MethodName)) ∈ lw_all := pt_all (List.mem_of_getElem? (i := 598) rfl) rfl
set_option maxRecDepth 100000 in
theorem kw_599 : (Jvm.Cond.instanceMethod ({ cls := "PuppetTheatre", name := "isEnded", desc := "(I)Z" } : Jvm.MethodName)) ∈ lw_all := pt_all (List.mem_of_getElem? (i := 599) rfl) rfl
set_option maxRecDepth 100000 in
theorem kw_600 : (Jvm.Cond.selects "PuppetTheatre" ({ cls := "PuppetTheatre", name := "isEnded", desc := "(I)Z" } : Jvm.MethodName) ({ cls := "PuppetTheatre", name := "isEnded", desc := "(I)Z" } : Jvm.MethodName)) ∈ lw_all := pt_all (List.mem_of_getElem? (i := 600) rfl) rfl
set_option maxRecDepth 100000 in
theorem kw_601 : (Jvm.Cond.code ({ cls := "PuppetTheatre", name := "isEnded", desc := "(I)Z" } : Jvm.MethodName) prog_1_method_18_code (2 : Nat) (Option.some Jvm.ClassFile.FieldType.boolean)) ∈ lw_all := pt_all (List.mem_of_getElem? (i := 601) rfl) rfl
set_option maxRecDepth 100000 in
theorem kw_602 : (Jvm.Cond.methodLink "PuppetTheatre" (48 : Nat) ({ cls := "PuppetTheatre", name := "checkState", desc := "(I)V" } : Jvm.MethodName)) ∈ lw_all := pt_all (List.mem_of_getElem? (i := 602) rfl) rfl
set_option maxRecDepth 100000 in
theorem kw_604 : (Jvm.Cond.instanceMethod ({ cls := "PuppetTheatre", name := "checkState", desc := "(I)V" } : Jvm.MethodName)) ∈ lw_all := pt_all (List.mem_of_getElem? (i := 604) rfl) rfl
set_option maxRecDepth 100000 in
theorem kw_605 : (Jvm.Cond.code ({ cls := "PuppetTheatre", name := "checkState", desc := "(I)V" } : Jvm.MethodName) prog_1_method_39_code (2 : Nat) (Option.none : Option Jvm.ClassFile.FieldType)) ∈ lw_all := pt_all (List.mem_of_getElem? (i := 605) rfl) rfl
set_option maxRecDepth 100000 in
theorem kw_621 : (Jvm.Cond.methodLink "PuppetTheatre" (190 : Nat) ({ cls := "PuppetTheatre$Chart", name := "endedAmong", desc := "(I)I" } : Jvm.MethodName)) ∈ lw_all := pt_all (List.mem_of_getElem? (i := 621) rfl) rfl
set_option maxRecDepth 100000 in
theorem kw_622 : (Jvm.Cond.methodLink "PuppetTheatre" (82 : Nat) ({ cls := "PuppetTheatre", name := "has", desc := "(II)Z" } : Jvm.MethodName)) ∈ lw_all := pt_all (List.mem_of_getElem? (i := 622) rfl) rfl
set_option maxRecDepth 100000 in
theorem kw_623 : (Jvm.Cond.methodLink "PuppetTheatreLaw" (55 : Nat) ({ cls := "PuppetTheatre", name := "clock", desc := "()I" } : Jvm.MethodName)) ∈ lw_all := pt_all (List.mem_of_getElem? (i := 623) rfl) rfl
set_option maxRecDepth 100000 in
theorem kw_624 : (Jvm.Cond.instanceMethod ({ cls := "PuppetTheatre", name := "clock", desc := "()I" } : Jvm.MethodName)) ∈ lw_all := pt_all (List.mem_of_getElem? (i := 624) rfl) rfl
set_option maxRecDepth 100000 in
theorem kw_625 : (Jvm.Cond.selects "PuppetTheatre" ({ cls := "PuppetTheatre", name := "clock", desc := "()I" } : Jvm.MethodName) ({ cls := "PuppetTheatre", name := "clock", desc := "()I" } : Jvm.MethodName)) ∈ lw_all := pt_all (List.mem_of_getElem? (i := 625) rfl) rfl
set_option maxRecDepth 100000 in
theorem kw_626 : (Jvm.Cond.code ({ cls := "PuppetTheatre", name := "clock", desc := "()I" } : Jvm.MethodName) prog_1_method_22_code (1 : Nat) (Option.some Jvm.ClassFile.FieldType.int)) ∈ lw_all := pt_all (List.mem_of_getElem? (i := 626) rfl) rfl
set_option maxRecDepth 100000 in
theorem kw_627 : (Jvm.Cond.methodLink "PuppetTheatreLaw" (104 : Nat) ({ cls := "PuppetTheatre", name := "fired", desc := "(I)I" } : Jvm.MethodName)) ∈ lw_all := pt_all (List.mem_of_getElem? (i := 627) rfl) rfl
set_option maxRecDepth 100000 in
theorem kw_628 : (Jvm.Cond.instanceMethod ({ cls := "PuppetTheatre", name := "fired", desc := "(I)I" } : Jvm.MethodName)) ∈ lw_all := pt_all (List.mem_of_getElem? (i := 628) rfl) rfl
set_option maxRecDepth 100000 in
theorem kw_629 : (Jvm.Cond.selects "PuppetTheatre" ({ cls := "PuppetTheatre", name := "fired", desc := "(I)I" } : Jvm.MethodName) ({ cls := "PuppetTheatre", name := "fired", desc := "(I)I" } : Jvm.MethodName)) ∈ lw_all := pt_all (List.mem_of_getElem? (i := 629) rfl) rfl
set_option maxRecDepth 100000 in
theorem kw_630 : (Jvm.Cond.code ({ cls := "PuppetTheatre", name := "fired", desc := "(I)I" } : Jvm.MethodName) prog_1_method_23_code (2 : Nat) (Option.some Jvm.ClassFile.FieldType.int)) ∈ lw_all := pt_all (List.mem_of_getElem? (i := 630) rfl) rfl
set_option maxRecDepth 100000 in
theorem kw_631 : (Jvm.Cond.methodLink "PuppetTheatre" (121 : Nat) ({ cls := "PuppetTheatre", name := "checkTransition", desc := "(I)V" } : Jvm.MethodName)) ∈ lw_all := pt_all (List.mem_of_getElem? (i := 631) rfl) rfl
set_option maxRecDepth 100000 in
theorem kw_633 : (Jvm.Cond.instanceMethod ({ cls := "PuppetTheatre", name := "checkTransition", desc := "(I)V" } : Jvm.MethodName)) ∈ lw_all := pt_all (List.mem_of_getElem? (i := 633) rfl) rfl
set_option maxRecDepth 100000 in
theorem kw_634 : (Jvm.Cond.code ({ cls := "PuppetTheatre", name := "checkTransition", desc := "(I)V" } : Jvm.MethodName) prog_1_method_40_code (2 : Nat) (Option.none : Option Jvm.ClassFile.FieldType)) ∈ lw_all := pt_all (List.mem_of_getElem? (i := 634) rfl) rfl
set_option maxRecDepth 100000 in
theorem kw_635 : (Jvm.Cond.methodLink "PuppetTheatreLaw" (107 : Nat) ({ cls := "PuppetTheatre", name := "covered", desc := "()I" } : Jvm.MethodName)) ∈ lw_all := pt_all (List.mem_of_getElem? (i := 635) rfl) rfl
set_option maxRecDepth 100000 in
theorem kw_636 : (Jvm.Cond.instanceMethod ({ cls := "PuppetTheatre", name := "covered", desc := "()I" } : Jvm.MethodName)) ∈ lw_all := pt_all (List.mem_of_getElem? (i := 636) rfl) rfl
set_option maxRecDepth 100000 in
theorem kw_637 : (Jvm.Cond.selects "PuppetTheatre" ({ cls := "PuppetTheatre", name := "covered", desc := "()I" } : Jvm.MethodName) ({ cls := "PuppetTheatre", name := "covered", desc := "()I" } : Jvm.MethodName)) ∈ lw_all := pt_all (List.mem_of_getElem? (i := 637) rfl) rfl
set_option maxRecDepth 100000 in
theorem kw_638 : (Jvm.Cond.code ({ cls := "PuppetTheatre", name := "covered", desc := "()I" } : Jvm.MethodName) prog_1_method_24_code (3 : Nat) (Option.some Jvm.ClassFile.FieldType.int)) ∈ lw_all := pt_all (List.mem_of_getElem? (i := 638) rfl) rfl
set_option maxRecDepth 100000 in
theorem kw_639 : (Jvm.Cond.methodLink "PuppetTheatreLaw" (92 : Nat) ({ cls := "PuppetTheatre", name := "restless", desc := "()I" } : Jvm.MethodName)) ∈ lw_all := pt_all (List.mem_of_getElem? (i := 639) rfl) rfl
set_option maxRecDepth 100000 in
theorem kw_640 : (Jvm.Cond.instanceMethod ({ cls := "PuppetTheatre", name := "restless", desc := "()I" } : Jvm.MethodName)) ∈ lw_all := pt_all (List.mem_of_getElem? (i := 640) rfl) rfl
set_option maxRecDepth 100000 in
theorem kw_641 : (Jvm.Cond.selects "PuppetTheatre" ({ cls := "PuppetTheatre", name := "restless", desc := "()I" } : Jvm.MethodName) ({ cls := "PuppetTheatre", name := "restless", desc := "()I" } : Jvm.MethodName)) ∈ lw_all := pt_all (List.mem_of_getElem? (i := 641) rfl) rfl
set_option maxRecDepth 100000 in
theorem kw_642 : (Jvm.Cond.code ({ cls := "PuppetTheatre", name := "restless", desc := "()I" } : Jvm.MethodName) prog_1_method_26_code (1 : Nat) (Option.some Jvm.ClassFile.FieldType.int)) ∈ lw_all := pt_all (List.mem_of_getElem? (i := 642) rfl) rfl
set_option maxRecDepth 100000 in
theorem kw_643 : (Jvm.Cond.methodLink "PuppetTheatreLaw" (79 : Nat) ({ cls := "PuppetTheatre", name := "wouldFire", desc := "(I)I" } : Jvm.MethodName)) ∈ lw_all := pt_all (List.mem_of_getElem? (i := 643) rfl) rfl
set_option maxRecDepth 100000 in
theorem kw_644 : (Jvm.Cond.instanceMethod ({ cls := "PuppetTheatre", name := "wouldFire", desc := "(I)I" } : Jvm.MethodName)) ∈ lw_all := pt_all (List.mem_of_getElem? (i := 644) rfl) rfl
set_option maxRecDepth 100000 in
theorem kw_645 : (Jvm.Cond.selects "PuppetTheatre" ({ cls := "PuppetTheatre", name := "wouldFire", desc := "(I)I" } : Jvm.MethodName) ({ cls := "PuppetTheatre", name := "wouldFire", desc := "(I)I" } : Jvm.MethodName)) ∈ lw_all := pt_all (List.mem_of_getElem? (i := 645) rfl) rfl
set_option maxRecDepth 100000 in
theorem kw_646 : (Jvm.Cond.code ({ cls := "PuppetTheatre", name := "wouldFire", desc := "(I)I" } : Jvm.MethodName) prog_1_method_27_code (2 : Nat) (Option.some Jvm.ClassFile.FieldType.int)) ∈ lw_all := pt_all (List.mem_of_getElem? (i := 646) rfl) rfl
set_option maxRecDepth 100000 in
theorem kw_647 : (Jvm.Cond.methodLink "PuppetTheatre" (218 : Nat) ({ cls := "PuppetTheatre$Situation", name := "copyFrom", desc := "(LPuppetTheatre$Situation;)V" } : Jvm.MethodName)) ∈ lw_all := pt_all (List.mem_of_getElem? (i := 647) rfl) rfl
set_option maxRecDepth 100000 in
theorem kw_648 : (Jvm.Cond.instanceMethod ({ cls := "PuppetTheatre$Situation", name := "copyFrom", desc := "(LPuppetTheatre$Situation;)V" } : Jvm.MethodName)) ∈ lw_all := pt_all (List.mem_of_getElem? (i := 648) rfl) rfl
set_option maxRecDepth 100000 in
theorem kw_649 : (Jvm.Cond.selects "PuppetTheatre$Situation" ({ cls := "PuppetTheatre$Situation", name := "copyFrom", desc := "(LPuppetTheatre$Situation;)V" } : Jvm.MethodName) ({ cls := "PuppetTheatre$Situation", name := "copyFrom", desc := "(LPuppetTheatre$Situation;)V" } : Jvm.MethodName)) ∈ lw_all := pt_all (List.mem_of_getElem? (i := 649) rfl) rfl
set_option maxRecDepth 100000 in
theorem kw_650 : (Jvm.Cond.code ({ cls := "PuppetTheatre$Situation", name := "copyFrom", desc := "(LPuppetTheatre$Situation;)V" } : Jvm.MethodName) prog_6_method_5_code (2 : Nat) (Option.none : Option Jvm.ClassFile.FieldType)) ∈ lw_all := pt_all (List.mem_of_getElem? (i := 650) rfl) rfl
set_option maxRecDepth 100000 in
theorem kw_651 : (Jvm.Cond.methodLink "PuppetTheatre$Situation" (37 : Nat) ({ cls := "java/lang/System", name := "arraycopy", desc := "(Ljava/lang/Object;ILjava/lang/Object;II)V" } : Jvm.MethodName)) ∈ lw_all := pt_all (List.mem_of_getElem? (i := 651) rfl) rfl
set_option maxRecDepth 100000 in
theorem kw_652 : (Jvm.Cond.static ({ cls := "java/lang/System", name := "arraycopy", desc := "(Ljava/lang/Object;ILjava/lang/Object;II)V" } : Jvm.MethodName)) ∈ lw_all := pt_all (List.mem_of_getElem? (i := 652) rfl) rfl
set_option maxRecDepth 100000 in
theorem kw_653 : (Jvm.Cond.native ({ cls := "java/lang/System", name := "arraycopy", desc := "(Ljava/lang/Object;ILjava/lang/Object;II)V" } : Jvm.MethodName)) ∈ lw_all := pt_all (List.mem_of_getElem? (i := 653) rfl) rfl
set_option maxRecDepth 100000 in
theorem kw_654 : (Jvm.Cond.methodLink "PuppetTheatreLaw" (82 : Nat) ({ cls := "PuppetTheatre", name := "wouldBe", desc := "(I)I" } : Jvm.MethodName)) ∈ lw_all := pt_all (List.mem_of_getElem? (i := 654) rfl) rfl
set_option maxRecDepth 100000 in
theorem kw_655 : (Jvm.Cond.instanceMethod ({ cls := "PuppetTheatre", name := "wouldBe", desc := "(I)I" } : Jvm.MethodName)) ∈ lw_all := pt_all (List.mem_of_getElem? (i := 655) rfl) rfl
set_option maxRecDepth 100000 in
theorem kw_656 : (Jvm.Cond.selects "PuppetTheatre" ({ cls := "PuppetTheatre", name := "wouldBe", desc := "(I)I" } : Jvm.MethodName) ({ cls := "PuppetTheatre", name := "wouldBe", desc := "(I)I" } : Jvm.MethodName)) ∈ lw_all := pt_all (List.mem_of_getElem? (i := 656) rfl) rfl
set_option maxRecDepth 100000 in
theorem kw_657 : (Jvm.Cond.code ({ cls := "PuppetTheatre", name := "wouldBe", desc := "(I)I" } : Jvm.MethodName) prog_1_method_28_code (2 : Nat) (Option.some Jvm.ClassFile.FieldType.int)) ∈ lw_all := pt_all (List.mem_of_getElem? (i := 657) rfl) rfl
set_option maxRecDepth 100000 in
theorem kw_658 : (Jvm.Cond.methodLink "PuppetTheatreLaw" (85 : Nat) ({ cls := "PuppetTheatre", name := "open", desc := "()I" } : Jvm.MethodName)) ∈ lw_all := pt_all (List.mem_of_getElem? (i := 658) rfl) rfl
set_option maxRecDepth 100000 in
theorem kw_659 : (Jvm.Cond.instanceMethod ({ cls := "PuppetTheatre", name := "open", desc := "()I" } : Jvm.MethodName)) ∈ lw_all := pt_all (List.mem_of_getElem? (i := 659) rfl) rfl
set_option maxRecDepth 100000 in
theorem kw_660 : (Jvm.Cond.selects "PuppetTheatre" ({ cls := "PuppetTheatre", name := "open", desc := "()I" } : Jvm.MethodName) ({ cls := "PuppetTheatre", name := "open", desc := "()I" } : Jvm.MethodName)) ∈ lw_all := pt_all (List.mem_of_getElem? (i := 660) rfl) rfl
set_option maxRecDepth 100000 in
theorem kw_661 : (Jvm.Cond.code ({ cls := "PuppetTheatre", name := "open", desc := "()I" } : Jvm.MethodName) prog_1_method_29_code (3 : Nat) (Option.some Jvm.ClassFile.FieldType.int)) ∈ lw_all := pt_all (List.mem_of_getElem? (i := 661) rfl) rfl
set_option maxRecDepth 100000 in
theorem kw_662 : (Jvm.Cond.methodLink "PuppetTheatre" (222 : Nat) ({ cls := "PuppetTheatre$Play", name := "openBy", desc := "(I)I" } : Jvm.MethodName)) ∈ lw_all := pt_all (List.mem_of_getElem? (i := 662) rfl) rfl
set_option maxRecDepth 100000 in
theorem kw_663 : (Jvm.Cond.methodLink "PuppetTheatreLaw" (118 : Nat) ({ cls := "PuppetTheatre", name := "rowTo", desc := "(II)I" } : Jvm.MethodName)) ∈ lw_all := pt_all (List.mem_of_getElem? (i := 663) rfl) rfl
set_option maxRecDepth 100000 in
theorem kw_664 : (Jvm.Cond.instanceMethod ({ cls := "PuppetTheatre", name := "rowTo", desc := "(II)I" } : Jvm.MethodName)) ∈ lw_all := pt_all (List.mem_of_getElem? (i := 664) rfl) rfl
set_option maxRecDepth 100000 in
theorem kw_665 : (Jvm.Cond.selects "PuppetTheatre" ({ cls := "PuppetTheatre", name := "rowTo", desc := "(II)I" } : Jvm.MethodName) ({ cls := "PuppetTheatre", name := "rowTo", desc := "(II)I" } : Jvm.MethodName)) ∈ lw_all := pt_all (List.mem_of_getElem? (i := 665) rfl) rfl
set_option maxRecDepth 100000 in
theorem kw_666 : (Jvm.Cond.code ({ cls := "PuppetTheatre", name := "rowTo", desc := "(II)I" } : Jvm.MethodName) prog_1_method_30_code (3 : Nat) (Option.some Jvm.ClassFile.FieldType.int)) ∈ lw_all := pt_all (List.mem_of_getElem? (i := 666) rfl) rfl
set_option maxRecDepth 100000 in
theorem kw_667 : (Jvm.Cond.methodLink "PuppetTheatre" (225 : Nat) ({ cls := "PuppetTheatre", name := "checkMost", desc := "(I)V" } : Jvm.MethodName)) ∈ lw_all := pt_all (List.mem_of_getElem? (i := 667) rfl) rfl
set_option maxRecDepth 100000 in
theorem kw_668 : (Jvm.Cond.static ({ cls := "PuppetTheatre", name := "checkMost", desc := "(I)V" } : Jvm.MethodName)) ∈ lw_all := pt_all (List.mem_of_getElem? (i := 668) rfl) rfl
set_option maxRecDepth 100000 in
theorem kw_669 : (Jvm.Cond.code ({ cls := "PuppetTheatre", name := "checkMost", desc := "(I)V" } : Jvm.MethodName) prog_1_method_42_code (1 : Nat) (Option.none : Option Jvm.ClassFile.FieldType)) ∈ lw_all := pt_all (List.mem_of_getElem? (i := 669) rfl) rfl
set_option maxRecDepth 100000 in
theorem kw_670 : (Jvm.Cond.methodLink "PuppetTheatre" (228 : Nat) ({ cls := "PuppetTheatre$Look", name := "search", desc := "(LPuppetTheatre$Situation;III)I" } : Jvm.MethodName)) ∈ lw_all := pt_all (List.mem_of_getElem? (i := 670) rfl) rfl
set_option maxRecDepth 100000 in
theorem kw_671 : (Jvm.Cond.instanceMethod ({ cls := "PuppetTheatre$Look", name := "search", desc := "(LPuppetTheatre$Situation;III)I" } : Jvm.MethodName)) ∈ lw_all := pt_all (List.mem_of_getElem? (i := 671) rfl) rfl
set_option maxRecDepth 100000 in
theorem kw_672 : (Jvm.Cond.selects "PuppetTheatre$Look" ({ cls := "PuppetTheatre$Look", name := "search", desc := "(LPuppetTheatre$Situation;III)I" } : Jvm.MethodName) ({ cls := "PuppetTheatre$Look", name := "search", desc := "(LPuppetTheatre$Situation;III)I" } : Jvm.MethodName)) ∈ lw_all := pt_all (List.mem_of_getElem? (i := 672) rfl) rfl
set_option maxRecDepth 100000 in
theorem kw_673 : (Jvm.Cond.code ({ cls := "PuppetTheatre$Look", name := "search", desc := "(LPuppetTheatre$Situation;III)I" } : Jvm.MethodName) prog_4_method_2_code (7 : Nat) (Option.some Jvm.ClassFile.FieldType.int)) ∈ lw_all := pt_all (List.mem_of_getElem? (i := 673) rfl) rfl
set_option maxRecDepth 100000 in
theorem kw_674 : (Jvm.Cond.methodLinkNest "PuppetTheatre$Look" (45 : Nat) ({ cls := "PuppetTheatre", name := "has", desc := "(II)Z" } : Jvm.MethodName) "PuppetTheatre") ∈ lw_all := pt_all (List.mem_of_getElem? (i := 674) rfl) rfl
set_option maxRecDepth 100000 in
theorem kw_675 : (Jvm.Cond.methodLink "PuppetTheatre$Look" (49 : Nat) ({ cls := "PuppetTheatre$Situation", name := "copyFrom", desc := "(LPuppetTheatre$Situation;)V" } : Jvm.MethodName)) ∈ lw_all := pt_all (List.mem_of_getElem? (i := 675) rfl) rfl
set_option maxRecDepth 100000 in
theorem kw_676 : (Jvm.Cond.methodLink "PuppetTheatre$Look" (62 : Nat) ({ cls := "PuppetTheatre$Play", name := "proceed", desc := "(I)I" } : Jvm.MethodName)) ∈ lw_all := pt_all (List.mem_of_getElem? (i := 676) rfl) rfl
set_option maxRecDepth 100000 in
theorem kw_677 : (Jvm.Cond.methodLink "PuppetTheatre$Look" (66 : Nat) ({ cls := "PuppetTheatre$Look", name := "isReached", desc := "(II)Z" } : Jvm.MethodName)) ∈ lw_all := pt_all (List.mem_of_getElem? (i := 677) rfl) rfl
set_option maxRecDepth 100000 in
theorem kw_679 : (Jvm.Cond.instanceMethod ({ cls := "PuppetTheatre$Look", name := "isReached", desc := "(II)Z" } : Jvm.MethodName)) ∈ lw_all := pt_all (List.mem_of_getElem? (i := 679) rfl) rfl
set_option maxRecDepth 100000 in
theorem kw_680 : (Jvm.Cond.code ({ cls := "PuppetTheatre$Look", name := "isReached", desc := "(II)Z" } : Jvm.MethodName) prog_4_method_3_code (3 : Nat) (Option.some Jvm.ClassFile.FieldType.boolean)) ∈ lw_all := pt_all (List.mem_of_getElem? (i := 680) rfl) rfl
set_option maxRecDepth 100000 in
theorem kw_681 : (Jvm.Cond.methodLink "PuppetTheatre$Look" (69 : Nat) ({ cls := "PuppetTheatre$Look", name := "writeRow", desc := "(II)V" } : Jvm.MethodName)) ∈ lw_all := pt_all (List.mem_of_getElem? (i := 681) rfl) rfl
set_option maxRecDepth 100000 in
theorem kw_683 : (Jvm.Cond.instanceMethod ({ cls := "PuppetTheatre$Look", name := "writeRow", desc := "(II)V" } : Jvm.MethodName)) ∈ lw_all := pt_all (List.mem_of_getElem? (i := 683) rfl) rfl
set_option maxRecDepth 100000 in
theorem kw_684 : (Jvm.Cond.code ({ cls := "PuppetTheatre$Look", name := "writeRow", desc := "(II)V" } : Jvm.MethodName) prog_4_method_5_code (5 : Nat) (Option.none : Option Jvm.ClassFile.FieldType)) ∈ lw_all := pt_all (List.mem_of_getElem? (i := 684) rfl) rfl
set_option maxRecDepth 100000 in
theorem kw_685 : (Jvm.Cond.methodLink "PuppetTheatre$Look" (73 : Nat) ({ cls := "PuppetTheatre$Look", name := "keepIfNew", desc := "(II)V" } : Jvm.MethodName)) ∈ lw_all := pt_all (List.mem_of_getElem? (i := 685) rfl) rfl
set_option maxRecDepth 100000 in
theorem kw_687 : (Jvm.Cond.instanceMethod ({ cls := "PuppetTheatre$Look", name := "keepIfNew", desc := "(II)V" } : Jvm.MethodName)) ∈ lw_all := pt_all (List.mem_of_getElem? (i := 687) rfl) rfl
set_option maxRecDepth 100000 in
theorem kw_688 : (Jvm.Cond.code ({ cls := "PuppetTheatre$Look", name := "keepIfNew", desc := "(II)V" } : Jvm.MethodName) prog_4_method_4_code (4 : Nat) (Option.none : Option Jvm.ClassFile.FieldType)) ∈ lw_all := pt_all (List.mem_of_getElem? (i := 688) rfl) rfl
set_option maxRecDepth 100000 in
theorem kw_689 : (Jvm.Cond.methodLink "PuppetTheatre$Look" (79 : Nat) ({ cls := "PuppetTheatre$Situation", name := "isSameAs", desc := "(LPuppetTheatre$Situation;)Z" } : Jvm.MethodName)) ∈ lw_all := pt_all (List.mem_of_getElem? (i := 689) rfl) rfl
set_option maxRecDepth 100000 in
theorem kw_690 : (Jvm.Cond.instanceMethod ({ cls := "PuppetTheatre$Situation", name := "isSameAs", desc := "(LPuppetTheatre$Situation;)Z" } : Jvm.MethodName)) ∈ lw_all := pt_all (List.mem_of_getElem? (i := 690) rfl) rfl
set_option maxRecDepth 100000 in
theorem kw_691 : (Jvm.Cond.selects "PuppetTheatre$Situation" ({ cls := "PuppetTheatre$Situation", name := "isSameAs", desc := "(LPuppetTheatre$Situation;)Z" } : Jvm.MethodName) ({ cls := "PuppetTheatre$Situation", name := "isSameAs", desc := "(LPuppetTheatre$Situation;)Z" } : Jvm.MethodName)) ∈ lw_all := pt_all (List.mem_of_getElem? (i := 691) rfl) rfl
set_option maxRecDepth 100000 in
theorem kw_692 : (Jvm.Cond.code ({ cls := "PuppetTheatre$Situation", name := "isSameAs", desc := "(LPuppetTheatre$Situation;)Z" } : Jvm.MethodName) prog_6_method_6_code (3 : Nat) (Option.some Jvm.ClassFile.FieldType.boolean)) ∈ lw_all := pt_all (List.mem_of_getElem? (i := 692) rfl) rfl
set_option maxRecDepth 100000 in
theorem kw_693 : (Jvm.Cond.methodLink "PuppetTheatreLaw" (121 : Nat) ({ cls := "PuppetTheatre", name := "rowAt", desc := "(I)I" } : Jvm.MethodName)) ∈ lw_all := pt_all (List.mem_of_getElem? (i := 693) rfl) rfl
