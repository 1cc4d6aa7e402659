set_option maxRecDepth 100000 in
theorem kw_51 : (Jvm.Cond.initialized "PuppetTheatreLaw") ∈ lw_all := pt_all (List.mem_of_getElem? (i := 51) rfl) (by decide +kernel)
set_option maxRecDepth 100000 in
theorem kw_386 : (Jvm.Cond.methodLink "PuppetTheatreLaw" (128 : Nat) ({ cls := "PuppetTheatre", name := "states", desc := "()I" } : Jvm.MethodName)) ∈ lw_all := pt_all (List.mem_of_getElem? (i := 386) rfl) (by decide +kernel)
set_option maxRecDepth 100000 in
theorem kw_390 : (Jvm.Cond.methodLink "PuppetTheatreLaw" (132 : Nat) ({ cls := "PuppetTheatre", name := "transitions", desc := "()I" } : Jvm.MethodName)) ∈ lw_all := pt_all (List.mem_of_getElem? (i := 390) rfl) (by decide +kernel)
set_option maxRecDepth 100000 in
theorem kw_394 : (Jvm.Cond.methodLink "PuppetTheatreLaw" (139 : Nat) ({ cls := "PuppetTheatre", name := "isRunning", desc := "()Z" } : Jvm.MethodName)) ∈ lw_all := pt_all (List.mem_of_getElem? (i := 394) rfl) (by decide +kernel)
set_option maxRecDepth 100000 in
theorem kw_398 : (Jvm.Cond.methodLink "PuppetTheatreLaw" (144 : Nat) ({ cls := "PuppetTheatre", name := "active", desc := "()I" } : Jvm.MethodName)) ∈ lw_all := pt_all (List.mem_of_getElem? (i := 398) rfl) (by decide +kernel)
set_option maxRecDepth 100000 in
theorem kw_402 : (Jvm.Cond.methodLink "PuppetTheatreLaw" (148 : Nat) ({ cls := "PuppetTheatre", name := "isOver", desc := "()Z" } : Jvm.MethodName)) ∈ lw_all := pt_all (List.mem_of_getElem? (i := 402) rfl) (by decide +kernel)
set_option maxRecDepth 100000 in
theorem kw_410 : (Jvm.Cond.methodLink "PuppetTheatreLaw" (164 : Nat) ({ cls := "PuppetTheatre", name := "clock", desc := "()I" } : Jvm.MethodName)) ∈ lw_all := pt_all (List.mem_of_getElem? (i := 410) rfl) (by decide +kernel)
set_option maxRecDepth 100000 in
theorem kw_414 : (Jvm.Cond.methodLink "PuppetTheatreLaw" (171 : Nat) ({ cls := "PuppetTheatre", name := "covered", desc := "()I" } : Jvm.MethodName)) ∈ lw_all := pt_all (List.mem_of_getElem? (i := 414) rfl) (by decide +kernel)
set_option maxRecDepth 100000 in
theorem kw_418 : (Jvm.Cond.methodLink "PuppetTheatreLaw" (175 : Nat) ({ cls := "PuppetTheatre", name := "lost", desc := "()I" } : Jvm.MethodName)) ∈ lw_all := pt_all (List.mem_of_getElem? (i := 418) rfl) (by decide +kernel)
set_option maxRecDepth 100000 in
theorem kw_422 : (Jvm.Cond.methodLink "PuppetTheatreLaw" (179 : Nat) ({ cls := "PuppetTheatre", name := "restless", desc := "()I" } : Jvm.MethodName)) ∈ lw_all := pt_all (List.mem_of_getElem? (i := 422) rfl) (by decide +kernel)
set_option maxRecDepth 100000 in
theorem kw_426 : (Jvm.Cond.methodLink "PuppetTheatreLaw" (198 : Nat) ({ cls := "PuppetTheatre", name := "rowAt", desc := "(I)I" } : Jvm.MethodName)) ∈ lw_all := pt_all (List.mem_of_getElem? (i := 426) rfl) (by decide +kernel)
set_option maxRecDepth 100000 in
theorem kw_433 : (Jvm.Cond.methodLink "PuppetTheatreLaw" (202 : Nat) ({ cls := "PuppetTheatre", name := "looked", desc := "()I" } : Jvm.MethodName)) ∈ lw_all := pt_all (List.mem_of_getElem? (i := 433) rfl) (by decide +kernel)
set_option maxRecDepth 100000 in
theorem kw_437 : (Jvm.Cond.methodLink "PuppetTheatreLaw" (206 : Nat) ({ cls := "PuppetTheatre", name := "meanAge", desc := "()D" } : Jvm.MethodName)) ∈ lw_all := pt_all (List.mem_of_getElem? (i := 437) rfl) (by decide +kernel)
set_option maxRecDepth 100000 in
theorem kw_438 : (Jvm.Cond.instanceMethod ({ cls := "PuppetTheatre", name := "meanAge", desc := "()D" } : Jvm.MethodName)) ∈ lw_all := pt_all (List.mem_of_getElem? (i := 438) rfl) (by decide +kernel)
set_option maxRecDepth 100000 in
theorem kw_439 : (Jvm.Cond.selects "PuppetTheatre" ({ cls := "PuppetTheatre", name := "meanAge", desc := "()D" } : Jvm.MethodName) ({ cls := "PuppetTheatre", name := "meanAge", desc := "()D" } : Jvm.MethodName)) ∈ lw_all := pt_all (List.mem_of_getElem? (i := 439) rfl) (by decide +kernel)
set_option maxRecDepth 100000 in
theorem kw_450 : (Jvm.Cond.methodLink "PuppetTheatreLaw" (211 : Nat) ({ cls := "PuppetTheatre", name := "digest", desc := "()J" } : Jvm.MethodName)) ∈ lw_all := pt_all (List.mem_of_getElem? (i := 450) rfl) (by decide +kernel)
set_option maxRecDepth 100000 in
theorem kw_451 : (Jvm.Cond.instanceMethod ({ cls := "PuppetTheatre", name := "digest", desc := "()J" } : Jvm.MethodName)) ∈ lw_all := pt_all (List.mem_of_getElem? (i := 451) rfl) (by decide +kernel)
set_option maxRecDepth 100000 in
theorem kw_452 : (Jvm.Cond.selects "PuppetTheatre" ({ cls := "PuppetTheatre", name := "digest", desc := "()J" } : Jvm.MethodName) ({ cls := "PuppetTheatre", name := "digest", desc := "()J" } : Jvm.MethodName)) ∈ lw_all := pt_all (List.mem_of_getElem? (i := 452) rfl) (by decide +kernel)
set_option maxRecDepth 100000 in
theorem kw_585 : (Jvm.Cond.methodLink "PuppetTheatreLaw" (88 : Nat) ({ cls := "PuppetTheatreLaw", name := "addState", desc := "(LPuppetTheatre;II[J)I" } : Jvm.MethodName)) ∈ lw_all := pt_all (List.mem_of_getElem? (i := 585) rfl) (by decide +kernel)
set_option maxRecDepth 100000 in
theorem kw_586 : (Jvm.Cond.static ({ cls := "PuppetTheatreLaw", name := "addState", desc := "(LPuppetTheatre;II[J)I" } : Jvm.MethodName)) ∈ lw_all := pt_all (List.mem_of_getElem? (i := 586) rfl) (by decide +kernel)
set_option maxRecDepth 100000 in
theorem kw_629 : (Jvm.Cond.methodLink "PuppetTheatreLaw" (97 : Nat) ({ cls := "PuppetTheatreLaw", name := "setFirst", desc := "(LPuppetTheatre;II[J)I" } : Jvm.MethodName)) ∈ lw_all := pt_all (List.mem_of_getElem? (i := 629) rfl) (by decide +kernel)
set_option maxRecDepth 100000 in
theorem kw_630 : (Jvm.Cond.static ({ cls := "PuppetTheatreLaw", name := "setFirst", desc := "(LPuppetTheatre;II[J)I" } : Jvm.MethodName)) ∈ lw_all := pt_all (List.mem_of_getElem? (i := 630) rfl) (by decide +kernel)
set_option maxRecDepth 100000 in
theorem kw_641 : (Jvm.Cond.methodLink "PuppetTheatreLaw" (100 : Nat) ({ cls := "PuppetTheatreLaw", name := "setDoing", desc := "(LPuppetTheatre;IZIII[J)I" } : Jvm.MethodName)) ∈ lw_all := pt_all (List.mem_of_getElem? (i := 641) rfl) (by decide +kernel)
set_option maxRecDepth 100000 in
theorem kw_642 : (Jvm.Cond.static ({ cls := "PuppetTheatreLaw", name := "setDoing", desc := "(LPuppetTheatre;IZIII[J)I" } : Jvm.MethodName)) ∈ lw_all := pt_all (List.mem_of_getElem? (i := 642) rfl) (by decide +kernel)
set_option maxRecDepth 100000 in
theorem kw_658 : (Jvm.Cond.methodLink "PuppetTheatreLaw" (104 : Nat) ({ cls := "PuppetTheatreLaw", name := "addTransition", desc := "(LPuppetTheatre;IIII[J)I" } : Jvm.MethodName)) ∈ lw_all := pt_all (List.mem_of_getElem? (i := 658) rfl) (by decide +kernel)
set_option maxRecDepth 100000 in
theorem kw_659 : (Jvm.Cond.static ({ cls := "PuppetTheatreLaw", name := "addTransition", desc := "(LPuppetTheatre;IIII[J)I" } : Jvm.MethodName)) ∈ lw_all := pt_all (List.mem_of_getElem? (i := 659) rfl) (by decide +kernel)
set_option maxRecDepth 100000 in
theorem kw_679 : (Jvm.Cond.methodLink "PuppetTheatreLaw" (108 : Nat) ({ cls := "PuppetTheatreLaw", name := "setGuard", desc := "(LPuppetTheatre;IIII[J)I" } : Jvm.MethodName)) ∈ lw_all := pt_all (List.mem_of_getElem? (i := 679) rfl) (by decide +kernel)
set_option maxRecDepth 100000 in
theorem kw_680 : (Jvm.Cond.static ({ cls := "PuppetTheatreLaw", name := "setGuard", desc := "(LPuppetTheatre;IIII[J)I" } : Jvm.MethodName)) ∈ lw_all := pt_all (List.mem_of_getElem? (i := 680) rfl) (by decide +kernel)
set_option maxRecDepth 100000 in
theorem kw_689 : (Jvm.Cond.methodLink "PuppetTheatreLaw" (111 : Nat) ({ cls := "PuppetTheatreLaw", name := "setAction", desc := "(LPuppetTheatre;IIII[J)I" } : Jvm.MethodName)) ∈ lw_all := pt_all (List.mem_of_getElem? (i := 689) rfl) (by decide +kernel)
set_option maxRecDepth 100000 in
theorem kw_690 : (Jvm.Cond.static ({ cls := "PuppetTheatreLaw", name := "setAction", desc := "(LPuppetTheatre;IIII[J)I" } : Jvm.MethodName)) ∈ lw_all := pt_all (List.mem_of_getElem? (i := 690) rfl) (by decide +kernel)
set_option maxRecDepth 100000 in
theorem kw_696 : (Jvm.Cond.methodLink "PuppetTheatreLaw" (114 : Nat) ({ cls := "PuppetTheatreLaw", name := "start", desc := "(LPuppetTheatre;[J)I" } : Jvm.MethodName)) ∈ lw_all := pt_all (List.mem_of_getElem? (i := 696) rfl) (by decide +kernel)
set_option maxRecDepth 100000 in
theorem kw_697 : (Jvm.Cond.static ({ cls := "PuppetTheatreLaw", name := "start", desc := "(LPuppetTheatre;[J)I" } : Jvm.MethodName)) ∈ lw_all := pt_all (List.mem_of_getElem? (i := 697) rfl) (by decide +kernel)
set_option maxRecDepth 100000 in
theorem kw_821 : (Jvm.Cond.methodLink "PuppetTheatreLaw" (118 : Nat) ({ cls := "PuppetTheatreLaw", name := "stop", desc := "(LPuppetTheatre;[J)I" } : Jvm.MethodName)) ∈ lw_all := pt_all (List.mem_of_getElem? (i := 821) rfl) (by decide +kernel)
set_option maxRecDepth 100000 in
theorem kw_822 : (Jvm.Cond.static ({ cls := "PuppetTheatreLaw", name := "stop", desc := "(LPuppetTheatre;[J)I" } : Jvm.MethodName)) ∈ lw_all := pt_all (List.mem_of_getElem? (i := 822) rfl) (by decide +kernel)
set_option maxRecDepth 100000 in
theorem kw_833 : (Jvm.Cond.methodLink "PuppetTheatreLaw" (121 : Nat) ({ cls := "PuppetTheatreLaw", name := "send", desc := "(LPuppetTheatre;I[J)I" } : Jvm.MethodName)) ∈ lw_all := pt_all (List.mem_of_getElem? (i := 833) rfl) (by decide +kernel)
set_option maxRecDepth 100000 in
theorem kw_834 : (Jvm.Cond.static ({ cls := "PuppetTheatreLaw", name := "send", desc := "(LPuppetTheatre;I[J)I" } : Jvm.MethodName)) ∈ lw_all := pt_all (List.mem_of_getElem? (i := 834) rfl) (by decide +kernel)
set_option maxRecDepth 100000 in
theorem kw_843 : (Jvm.Cond.methodLink "PuppetTheatreLaw" (125 : Nat) ({ cls := "PuppetTheatreLaw", name := "tick", desc := "(LPuppetTheatre;I[J)I" } : Jvm.MethodName)) ∈ lw_all := pt_all (List.mem_of_getElem? (i := 843) rfl) (by decide +kernel)
set_option maxRecDepth 100000 in
theorem kw_844 : (Jvm.Cond.static ({ cls := "PuppetTheatreLaw", name := "tick", desc := "(LPuppetTheatre;I[J)I" } : Jvm.MethodName)) ∈ lw_all := pt_all (List.mem_of_getElem? (i := 844) rfl) (by decide +kernel)
set_option maxRecDepth 100000 in
theorem kw_850 : (Jvm.Cond.methodLink "PuppetTheatreLaw" (136 : Nat) ({ cls := "PuppetTheatreLaw", name := "ofState", desc := "(LPuppetTheatre;II[J)I" } : Jvm.MethodName)) ∈ lw_all := pt_all (List.mem_of_getElem? (i := 850) rfl) (by decide +kernel)
set_option maxRecDepth 100000 in
theorem kw_851 : (Jvm.Cond.static ({ cls := "PuppetTheatreLaw", name := "ofState", desc := "(LPuppetTheatre;II[J)I" } : Jvm.MethodName)) ∈ lw_all := pt_all (List.mem_of_getElem? (i := 851) rfl) (by decide +kernel)
set_option maxRecDepth 100000 in
theorem kw_854 : (Jvm.Cond.methodLink "PuppetTheatreLaw" (152 : Nat) ({ cls := "PuppetTheatreLaw", name := "isEnded", desc := "(LPuppetTheatre;I[J)I" } : Jvm.MethodName)) ∈ lw_all := pt_all (List.mem_of_getElem? (i := 854) rfl) (by decide +kernel)
set_option maxRecDepth 100000 in
theorem kw_855 : (Jvm.Cond.static ({ cls := "PuppetTheatreLaw", name := "isEnded", desc := "(LPuppetTheatre;I[J)I" } : Jvm.MethodName)) ∈ lw_all := pt_all (List.mem_of_getElem? (i := 855) rfl) (by decide +kernel)
set_option maxRecDepth 100000 in
theorem kw_861 : (Jvm.Cond.methodLink "PuppetTheatreLaw" (155 : Nat) ({ cls := "PuppetTheatreLaw", name := "ageOf", desc := "(LPuppetTheatre;I[J)I" } : Jvm.MethodName)) ∈ lw_all := pt_all (List.mem_of_getElem? (i := 861) rfl) (by decide +kernel)
set_option maxRecDepth 100000 in
theorem kw_862 : (Jvm.Cond.static ({ cls := "PuppetTheatreLaw", name := "ageOf", desc := "(LPuppetTheatre;I[J)I" } : Jvm.MethodName)) ∈ lw_all := pt_all (List.mem_of_getElem? (i := 862) rfl) (by decide +kernel)
set_option maxRecDepth 100000 in
theorem kw_865 : (Jvm.Cond.methodLink "PuppetTheatreLaw" (158 : Nat) ({ cls := "PuppetTheatreLaw", name := "record", desc := "(LPuppetTheatre;I[J)I" } : Jvm.MethodName)) ∈ lw_all := pt_all (List.mem_of_getElem? (i := 865) rfl) (by decide +kernel)
set_option maxRecDepth 100000 in
theorem kw_866 : (Jvm.Cond.static ({ cls := "PuppetTheatreLaw", name := "record", desc := "(LPuppetTheatre;I[J)I" } : Jvm.MethodName)) ∈ lw_all := pt_all (List.mem_of_getElem? (i := 866) rfl) (by decide +kernel)
set_option maxRecDepth 100000 in
theorem kw_869 : (Jvm.Cond.methodLink "PuppetTheatreLaw" (161 : Nat) ({ cls := "PuppetTheatreLaw", name := "variable", desc := "(LPuppetTheatre;I[J)I" } : Jvm.MethodName)) ∈ lw_all := pt_all (List.mem_of_getElem? (i := 869) rfl) (by decide +kernel)
set_option maxRecDepth 100000 in
theorem kw_870 : (Jvm.Cond.static ({ cls := "PuppetTheatreLaw", name := "variable", desc := "(LPuppetTheatre;I[J)I" } : Jvm.MethodName)) ∈ lw_all := pt_all (List.mem_of_getElem? (i := 870) rfl) (by decide +kernel)
set_option maxRecDepth 100000 in
theorem kw_873 : (Jvm.Cond.methodLink "PuppetTheatreLaw" (168 : Nat) ({ cls := "PuppetTheatreLaw", name := "fired", desc := "(LPuppetTheatre;I[J)I" } : Jvm.MethodName)) ∈ lw_all := pt_all (List.mem_of_getElem? (i := 873) rfl) (by decide +kernel)
set_option maxRecDepth 100000 in
theorem kw_874 : (Jvm.Cond.static ({ cls := "PuppetTheatreLaw", name := "fired", desc := "(LPuppetTheatre;I[J)I" } : Jvm.MethodName)) ∈ lw_all := pt_all (List.mem_of_getElem? (i := 874) rfl) (by decide +kernel)
set_option maxRecDepth 100000 in
theorem kw_877 : (Jvm.Cond.methodLink "PuppetTheatreLaw" (183 : Nat) ({ cls := "PuppetTheatreLaw", name := "wouldFire", desc := "(LPuppetTheatre;I[J)I" } : Jvm.MethodName)) ∈ lw_all := pt_all (List.mem_of_getElem? (i := 877) rfl) (by decide +kernel)
set_option maxRecDepth 100000 in
theorem kw_878 : (Jvm.Cond.static ({ cls := "PuppetTheatreLaw", name := "wouldFire", desc := "(LPuppetTheatre;I[J)I" } : Jvm.MethodName)) ∈ lw_all := pt_all (List.mem_of_getElem? (i := 878) rfl) (by decide +kernel)
set_option maxRecDepth 100000 in
theorem kw_891 : (Jvm.Cond.methodLink "PuppetTheatreLaw" (186 : Nat) ({ cls := "PuppetTheatreLaw", name := "wouldBe", desc := "(LPuppetTheatre;I[J)I" } : Jvm.MethodName)) ∈ lw_all := pt_all (List.mem_of_getElem? (i := 891) rfl) (by decide +kernel)
set_option maxRecDepth 100000 in
theorem kw_892 : (Jvm.Cond.static ({ cls := "PuppetTheatreLaw", name := "wouldBe", desc := "(LPuppetTheatre;I[J)I" } : Jvm.MethodName)) ∈ lw_all := pt_all (List.mem_of_getElem? (i := 892) rfl) (by decide +kernel)
set_option maxRecDepth 100000 in
theorem kw_898 : (Jvm.Cond.methodLink "PuppetTheatreLaw" (189 : Nat) ({ cls := "PuppetTheatreLaw", name := "open", desc := "(LPuppetTheatre;[J)I" } : Jvm.MethodName)) ∈ lw_all := pt_all (List.mem_of_getElem? (i := 898) rfl) (by decide +kernel)
set_option maxRecDepth 100000 in
theorem kw_899 : (Jvm.Cond.static ({ cls := "PuppetTheatreLaw", name := "open", desc := "(LPuppetTheatre;[J)I" } : Jvm.MethodName)) ∈ lw_all := pt_all (List.mem_of_getElem? (i := 899) rfl) (by decide +kernel)
set_option maxRecDepth 100000 in
theorem kw_906 : (Jvm.Cond.methodLink "PuppetTheatreLaw" (192 : Nat) ({ cls := "PuppetTheatreLaw", name := "rowTo", desc := "(LPuppetTheatre;II[J)I" } : Jvm.MethodName)) ∈ lw_all := pt_all (List.mem_of_getElem? (i := 906) rfl) (by decide +kernel)
set_option maxRecDepth 100000 in
theorem kw_907 : (Jvm.Cond.static ({ cls := "PuppetTheatreLaw", name := "rowTo", desc := "(LPuppetTheatre;II[J)I" } : Jvm.MethodName)) ∈ lw_all := pt_all (List.mem_of_getElem? (i := 907) rfl) (by decide +kernel)
set_option maxRecDepth 100000 in
theorem kw_939 : (Jvm.Cond.methodLink "PuppetTheatreLaw" (195 : Nat) ({ cls := "PuppetTheatreLaw", name := "rowFor", desc := "(LPuppetTheatre;II[J)I" } : Jvm.MethodName)) ∈ lw_all := pt_all (List.mem_of_getElem? (i := 939) rfl) (by decide +kernel)
set_option maxRecDepth 100000 in
theorem kw_940 : (Jvm.Cond.static ({ cls := "PuppetTheatreLaw", name := "rowFor", desc := "(LPuppetTheatre;II[J)I" } : Jvm.MethodName)) ∈ lw_all := pt_all (List.mem_of_getElem? (i := 940) rfl) (by decide +kernel)
set_option maxRecDepth 100000 in
theorem kw_1156 : (Jvm.Cond.methodLink "PuppetTheatreLaw" (94 : Nat) ({ cls := "PuppetTheatreModel", name := "thrown", desc := "()I" } : Jvm.MethodName)) ∈ lw_all := pt_all (List.mem_of_getElem? (i := 1156) rfl) (by decide +kernel)
set_option maxRecDepth 100000 in
theorem kw_1157 : (Jvm.Cond.instanceMethod ({ cls := "PuppetTheatreModel", name := "thrown", desc := "()I" } : Jvm.MethodName)) ∈ lw_all := pt_all (List.mem_of_getElem? (i := 1157) rfl) (by decide +kernel)
set_option maxRecDepth 100000 in
theorem kw_1158 : (Jvm.Cond.selects "PuppetTheatreModel" ({ cls := "PuppetTheatreModel", name := "thrown", desc := "()I" } : Jvm.MethodName) ({ cls := "PuppetTheatreModel", name := "thrown", desc := "()I" } : Jvm.MethodName)) ∈ lw_all := pt_all (List.mem_of_getElem? (i := 1158) rfl) (by decide +kernel)
set_option maxRecDepth 100000 in
theorem kw_1160 : (Jvm.Cond.methodLink "PuppetTheatreLaw" (93 : Nat) ({ cls := "PuppetTheatreModel", name := "addState", desc := "(II)I" } : Jvm.MethodName)) ∈ lw_all := pt_all (List.mem_of_getElem? (i := 1160) rfl) (by decide +kernel)
set_option maxRecDepth 100000 in
theorem kw_1161 : (Jvm.Cond.instanceMethod ({ cls := "PuppetTheatreModel", name := "addState", desc := "(II)I" } : Jvm.MethodName)) ∈ lw_all := pt_all (List.mem_of_getElem? (i := 1161) rfl) (by decide +kernel)
set_option maxRecDepth 100000 in
theorem kw_1162 : (Jvm.Cond.selects "PuppetTheatreModel" ({ cls := "PuppetTheatreModel", name := "addState", desc := "(II)I" } : Jvm.MethodName) ({ cls := "PuppetTheatreModel", name := "addState", desc := "(II)I" } : Jvm.MethodName)) ∈ lw_all := pt_all (List.mem_of_getElem? (i := 1162) rfl) (by decide +kernel)
set_option maxRecDepth 100000 in
theorem kw_1207 : (Jvm.Cond.methodLink "PuppetTheatreLaw" (99 : Nat) ({ cls := "PuppetTheatreModel", name := "setFirst", desc := "(II)I" } : Jvm.MethodName)) ∈ lw_all := pt_all (List.mem_of_getElem? (i := 1207) rfl) (by decide +kernel)
set_option maxRecDepth 100000 in
theorem kw_1208 : (Jvm.Cond.instanceMethod ({ cls := "PuppetTheatreModel", name := "setFirst", desc := "(II)I" } : Jvm.MethodName)) ∈ lw_all := pt_all (List.mem_of_getElem? (i := 1208) rfl) (by decide +kernel)
set_option maxRecDepth 100000 in
theorem kw_1209 : (Jvm.Cond.selects "PuppetTheatreModel" ({ cls := "PuppetTheatreModel", name := "setFirst", desc := "(II)I" } : Jvm.MethodName) ({ cls := "PuppetTheatreModel", name := "setFirst", desc := "(II)I" } : Jvm.MethodName)) ∈ lw_all := pt_all (List.mem_of_getElem? (i := 1209) rfl) (by decide +kernel)
set_option maxRecDepth 100000 in
theorem kw_1237 : (Jvm.Cond.methodLink "PuppetTheatreLaw" (103 : Nat) ({ cls := "PuppetTheatreModel", name := "setDoing", desc := "(IZIII)I" } : Jvm.MethodName)) ∈ lw_all := pt_all (List.mem_of_getElem? (i := 1237) rfl) (by decide +kernel)
set_option maxRecDepth 100000 in
theorem kw_1238 : (Jvm.Cond.instanceMethod ({ cls := "PuppetTheatreModel", name := "setDoing", desc := "(IZIII)I" } : Jvm.MethodName)) ∈ lw_all := pt_all (List.mem_of_getElem? (i := 1238) rfl) (by decide +kernel)
set_option maxRecDepth 100000 in
theorem kw_1239 : (Jvm.Cond.selects "PuppetTheatreModel" ({ cls := "PuppetTheatreModel", name := "setDoing", desc := "(IZIII)I" } : Jvm.MethodName) ({ cls := "PuppetTheatreModel", name := "setDoing", desc := "(IZIII)I" } : Jvm.MethodName)) ∈ lw_all := pt_all (List.mem_of_getElem? (i := 1239) rfl) (by decide +kernel)
set_option maxRecDepth 100000 in
theorem kw_1245 : (Jvm.Cond.methodLink "PuppetTheatreLaw" (107 : Nat) ({ cls := "PuppetTheatreModel", name := "addTransition", desc := "(IIII)I" } : Jvm.MethodName)) ∈ lw_all := pt_all (List.mem_of_getElem? (i := 1245) rfl) (by decide +kernel)
set_option maxRecDepth 100000 in
theorem kw_1246 : (Jvm.Cond.instanceMethod ({ cls := "PuppetTheatreModel", name := "addTransition", desc := "(IIII)I" } : Jvm.MethodName)) ∈ lw_all := pt_all (List.mem_of_getElem? (i := 1246) rfl) (by decide +kernel)
set_option maxRecDepth 100000 in
theorem kw_1247 : (Jvm.Cond.selects "PuppetTheatreModel" ({ cls := "PuppetTheatreModel", name := "addTransition", desc := "(IIII)I" } : Jvm.MethodName) ({ cls := "PuppetTheatreModel", name := "addTransition", desc := "(IIII)I" } : Jvm.MethodName)) ∈ lw_all := pt_all (List.mem_of_getElem? (i := 1247) rfl) (by decide +kernel)
set_option maxRecDepth 100000 in
theorem kw_1285 : (Jvm.Cond.methodLink "PuppetTheatreLaw" (110 : Nat) ({ cls := "PuppetTheatreModel", name := "setGuard", desc := "(IIII)I" } : Jvm.MethodName)) ∈ lw_all := pt_all (List.mem_of_getElem? (i := 1285) rfl) (by decide +kernel)
set_option maxRecDepth 100000 in
theorem kw_1286 : (Jvm.Cond.instanceMethod ({ cls := "PuppetTheatreModel", name := "setGuard", desc := "(IIII)I" } : Jvm.MethodName)) ∈ lw_all := pt_all (List.mem_of_getElem? (i := 1286) rfl) (by decide +kernel)
set_option maxRecDepth 100000 in
theorem kw_1287 : (Jvm.Cond.selects "PuppetTheatreModel" ({ cls := "PuppetTheatreModel", name := "setGuard", desc := "(IIII)I" } : Jvm.MethodName) ({ cls := "PuppetTheatreModel", name := "setGuard", desc := "(IIII)I" } : Jvm.MethodName)) ∈ lw_all := pt_all (List.mem_of_getElem? (i := 1287) rfl) (by decide +kernel)
set_option maxRecDepth 100000 in
theorem kw_1293 : (Jvm.Cond.methodLink "PuppetTheatreLaw" (113 : Nat) ({ cls := "PuppetTheatreModel", name := "setAction", desc := "(IIII)I" } : Jvm.MethodName)) ∈ lw_all := pt_all (List.mem_of_getElem? (i := 1293) rfl) (by decide +kernel)
set_option maxRecDepth 100000 in
theorem kw_1294 : (Jvm.Cond.instanceMethod ({ cls := "PuppetTheatreModel", name := "setAction", desc := "(IIII)I" } : Jvm.MethodName)) ∈ lw_all := pt_all (List.mem_of_getElem? (i := 1294) rfl) (by decide +kernel)
set_option maxRecDepth 100000 in
theorem kw_1295 : (Jvm.Cond.selects "PuppetTheatreModel" ({ cls := "PuppetTheatreModel", name := "setAction", desc := "(IIII)I" } : Jvm.MethodName) ({ cls := "PuppetTheatreModel", name := "setAction", desc := "(IIII)I" } : Jvm.MethodName)) ∈ lw_all := pt_all (List.mem_of_getElem? (i := 1295) rfl) (by decide +kernel)
set_option maxRecDepth 100000 in
theorem kw_1297 : (Jvm.Cond.methodLink "PuppetTheatreLaw" (117 : Nat) ({ cls := "PuppetTheatreModel", name := "start", desc := "()I" } : Jvm.MethodName)) ∈ lw_all := pt_all (List.mem_of_getElem? (i := 1297) rfl) (by decide +kernel)
set_option maxRecDepth 100000 in
theorem kw_1298 : (Jvm.Cond.instanceMethod ({ cls := "PuppetTheatreModel", name := "start", desc := "()I" } : Jvm.MethodName)) ∈ lw_all := pt_all (List.mem_of_getElem? (i := 1298) rfl) (by decide +kernel)
set_option maxRecDepth 100000 in
theorem kw_1299 : (Jvm.Cond.selects "PuppetTheatreModel" ({ cls := "PuppetTheatreModel", name := "start", desc := "()I" } : Jvm.MethodName) ({ cls := "PuppetTheatreModel", name := "start", desc := "()I" } : Jvm.MethodName)) ∈ lw_all := pt_all (List.mem_of_getElem? (i := 1299) rfl) (by decide +kernel)
set_option maxRecDepth 100000 in
theorem kw_1441 : (Jvm.Cond.methodLink "PuppetTheatreLaw" (120 : Nat) ({ cls := "PuppetTheatreModel", name := "stop", desc := "()I" } : Jvm.MethodName)) ∈ lw_all := pt_all (List.mem_of_getElem? (i := 1441) rfl) (by decide +kernel)
set_option maxRecDepth 100000 in
theorem kw_1442 : (Jvm.Cond.instanceMethod ({ cls := "PuppetTheatreModel", name := "stop", desc := "()I" } : Jvm.MethodName)) ∈ lw_all := pt_all (List.mem_of_getElem? (i := 1442) rfl) (by decide +kernel)
set_option maxRecDepth 100000 in
theorem kw_1443 : (Jvm.Cond.selects "PuppetTheatreModel" ({ cls := "PuppetTheatreModel", name := "stop", desc := "()I" } : Jvm.MethodName) ({ cls := "PuppetTheatreModel", name := "stop", desc := "()I" } : Jvm.MethodName)) ∈ lw_all := pt_all (List.mem_of_getElem? (i := 1443) rfl) (by decide +kernel)
set_option maxRecDepth 100000 in
theorem kw_1446 : (Jvm.Cond.methodLink "PuppetTheatreLaw" (124 : Nat) ({ cls := "PuppetTheatreModel", name := "send", desc := "(I)I" } : Jvm.MethodName)) ∈ lw_all := pt_all (List.mem_of_getElem? (i := 1446) rfl) (by decide +kernel)
set_option maxRecDepth 100000 in
theorem kw_1447 : (Jvm.Cond.instanceMethod ({ cls := "PuppetTheatreModel", name := "send", desc := "(I)I" } : Jvm.MethodName)) ∈ lw_all := pt_all (List.mem_of_getElem? (i := 1447) rfl) (by decide +kernel)
set_option maxRecDepth 100000 in
theorem kw_1448 : (Jvm.Cond.selects "PuppetTheatreModel" ({ cls := "PuppetTheatreModel", name := "send", desc := "(I)I" } : Jvm.MethodName) ({ cls := "PuppetTheatreModel", name := "send", desc := "(I)I" } : Jvm.MethodName)) ∈ lw_all := pt_all (List.mem_of_getElem? (i := 1448) rfl) (by decide +kernel)
set_option maxRecDepth 100000 in
theorem kw_1454 : (Jvm.Cond.methodLink "PuppetTheatreLaw" (127 : Nat) ({ cls := "PuppetTheatreModel", name := "tick", desc := "(I)I" } : Jvm.MethodName)) ∈ lw_all := pt_all (List.mem_of_getElem? (i := 1454) rfl) (by decide +kernel)
set_option maxRecDepth 100000 in
theorem kw_1455 : (Jvm.Cond.instanceMethod ({ cls := "PuppetTheatreModel", name := "tick", desc := "(I)I" } : Jvm.MethodName)) ∈ lw_all := pt_all (List.mem_of_getElem? (i := 1455) rfl) (by decide +kernel)
set_option maxRecDepth 100000 in
theorem kw_1456 : (Jvm.Cond.selects "PuppetTheatreModel" ({ cls := "PuppetTheatreModel", name := "tick", desc := "(I)I" } : Jvm.MethodName) ({ cls := "PuppetTheatreModel", name := "tick", desc := "(I)I" } : Jvm.MethodName)) ∈ lw_all := pt_all (List.mem_of_getElem? (i := 1456) rfl) (by decide +kernel)
set_option maxRecDepth 100000 in
theorem kw_1462 : (Jvm.Cond.methodLink "PuppetTheatreLaw" (131 : Nat) ({ cls := "PuppetTheatreModel", name := "states", desc := "()I" } : Jvm.MethodName)) ∈ lw_all := pt_all (List.mem_of_getElem? (i := 1462) rfl) (by decide +kernel)
set_option maxRecDepth 100000 in
theorem kw_1463 : (Jvm.Cond.instanceMethod ({ cls := "PuppetTheatreModel", name := "states", desc := "()I" } : Jvm.MethodName)) ∈ lw_all := pt_all (List.mem_of_getElem? (i := 1463) rfl) (by decide +kernel)
set_option maxRecDepth 100000 in
theorem kw_1464 : (Jvm.Cond.selects "PuppetTheatreModel" ({ cls := "PuppetTheatreModel", name := "states", desc := "()I" } : Jvm.MethodName) ({ cls := "PuppetTheatreModel", name := "states", desc := "()I" } : Jvm.MethodName)) ∈ lw_all := pt_all (List.mem_of_getElem? (i := 1464) rfl) (by decide +kernel)
set_option maxRecDepth 100000 in
theorem kw_1470 : (Jvm.Cond.methodLink "PuppetTheatreLaw" (135 : Nat) ({ cls := "PuppetTheatreModel", name := "transitions", desc := "()I" } : Jvm.MethodName)) ∈ lw_all := pt_all (List.mem_of_getElem? (i := 1470) rfl) (by decide +kernel)
set_option maxRecDepth 100000 in
theorem kw_1471 : (Jvm.Cond.instanceMethod ({ cls := "PuppetTheatreModel", name := "transitions", desc := "()I" } : Jvm.MethodName)) ∈ lw_all := pt_all (List.mem_of_getElem? (i := 1471) rfl) (by decide +kernel)
set_option maxRecDepth 100000 in
theorem kw_1472 : (Jvm.Cond.selects "PuppetTheatreModel" ({ cls := "PuppetTheatreModel", name := "transitions", desc := "()I" } : Jvm.MethodName) ({ cls := "PuppetTheatreModel", name := "transitions", desc := "()I" } : Jvm.MethodName)) ∈ lw_all := pt_all (List.mem_of_getElem? (i := 1472) rfl) (by decide +kernel)
set_option maxRecDepth 100000 in
theorem kw_1474 : (Jvm.Cond.methodLink "PuppetTheatreLaw" (138 : Nat) ({ cls := "PuppetTheatreModel", name := "ofState", desc := "(II)I" } : Jvm.MethodName)) ∈ lw_all := pt_all (List.mem_of_getElem? (i := 1474) rfl) (by decide +kernel)
set_option maxRecDepth 100000 in
theorem kw_1475 : (Jvm.Cond.instanceMethod ({ cls := "PuppetTheatreModel", name := "ofState", desc := "(II)I" } : Jvm.MethodName)) ∈ lw_all := pt_all (List.mem_of_getElem? (i := 1475) rfl) (by decide +kernel)
set_option maxRecDepth 100000 in
theorem kw_1476 : (Jvm.Cond.selects "PuppetTheatreModel" ({ cls := "PuppetTheatreModel", name := "ofState", desc := "(II)I" } : Jvm.MethodName) ({ cls := "PuppetTheatreModel", name := "ofState", desc := "(II)I" } : Jvm.MethodName)) ∈ lw_all := pt_all (List.mem_of_getElem? (i := 1476) rfl) (by decide +kernel)
set_option maxRecDepth 100000 in
theorem kw_1483 : (Jvm.Cond.methodLink "PuppetTheatreLaw" (143 : Nat) ({ cls := "PuppetTheatreModel", name := "isRunning", desc := "()Z" } : Jvm.MethodName)) ∈ lw_all := pt_all (List.mem_of_getElem? (i := 1483) rfl) (by decide +kernel)
set_option maxRecDepth 100000 in
theorem kw_1484 : (Jvm.Cond.instanceMethod ({ cls := "PuppetTheatreModel", name := "isRunning", desc := "()Z" } : Jvm.MethodName)) ∈ lw_all := pt_all (List.mem_of_getElem? (i := 1484) rfl) (by decide +kernel)
set_option maxRecDepth 100000 in
theorem kw_1485 : (Jvm.Cond.selects "PuppetTheatreModel" ({ cls := "PuppetTheatreModel", name := "isRunning", desc := "()Z" } : Jvm.MethodName) ({ cls := "PuppetTheatreModel", name := "isRunning", desc := "()Z" } : Jvm.MethodName)) ∈ lw_all := pt_all (List.mem_of_getElem? (i := 1485) rfl) (by decide +kernel)
set_option maxRecDepth 100000 in
theorem kw_1487 : (Jvm.Cond.methodLink "PuppetTheatreLaw" (147 : Nat) ({ cls := "PuppetTheatreModel", name := "active", desc := "()I" } : Jvm.MethodName)) ∈ lw_all := pt_all (List.mem_of_getElem? (i := 1487) rfl) (by decide +kernel)
set_option maxRecDepth 100000 in
theorem kw_1488 : (Jvm.Cond.instanceMethod ({ cls := "PuppetTheatreModel", name := "active", desc := "()I" } : Jvm.MethodName)) ∈ lw_all := pt_all (List.mem_of_getElem? (i := 1488) rfl) (by decide +kernel)
set_option maxRecDepth 100000 in
theorem kw_1489 : (Jvm.Cond.selects "PuppetTheatreModel" ({ cls := "PuppetTheatreModel", name := "active", desc := "()I" } : Jvm.MethodName) ({ cls := "PuppetTheatreModel", name := "active", desc := "()I" } : Jvm.MethodName)) ∈ lw_all := pt_all (List.mem_of_getElem? (i := 1489) rfl) (by decide +kernel)
set_option maxRecDepth 100000 in
theorem kw_1491 : (Jvm.Cond.methodLink "PuppetTheatreLaw" (151 : Nat) ({ cls := "PuppetTheatreModel", name := "isOver", desc := "()Z" } : Jvm.MethodName)) ∈ lw_all := pt_all (List.mem_of_getElem? (i := 1491) rfl) (by decide +kernel)
set_option maxRecDepth 100000 in
theorem kw_1492 : (Jvm.Cond.instanceMethod ({ cls := "PuppetTheatreModel", name := "isOver", desc := "()Z" } : Jvm.MethodName)) ∈ lw_all := pt_all (List.mem_of_getElem? (i := 1492) rfl) (by decide +kernel)
set_option maxRecDepth 100000 in
theorem kw_1493 : (Jvm.Cond.selects "PuppetTheatreModel" ({ cls := "PuppetTheatreModel", name := "isOver", desc := "()Z" } : Jvm.MethodName) ({ cls := "PuppetTheatreModel", name := "isOver", desc := "()Z" } : Jvm.MethodName)) ∈ lw_all := pt_all (List.mem_of_getElem? (i := 1493) rfl) (by decide +kernel)
set_option maxRecDepth 100000 in
theorem kw_1496 : (Jvm.Cond.methodLink "PuppetTheatreLaw" (154 : Nat) ({ cls := "PuppetTheatreModel", name := "isEnded", desc := "(I)Z" } : Jvm.MethodName)) ∈ lw_all := pt_all (List.mem_of_getElem? (i := 1496) rfl) (by decide +kernel)
set_option maxRecDepth 100000 in
theorem kw_1497 : (Jvm.Cond.instanceMethod ({ cls := "PuppetTheatreModel", name := "isEnded", desc := "(I)Z" } : Jvm.MethodName)) ∈ lw_all := pt_all (List.mem_of_getElem? (i := 1497) rfl) (by decide +kernel)
set_option maxRecDepth 100000 in
theorem kw_1498 : (Jvm.Cond.selects "PuppetTheatreModel" ({ cls := "PuppetTheatreModel", name := "isEnded", desc := "(I)Z" } : Jvm.MethodName) ({ cls := "PuppetTheatreModel", name := "isEnded", desc := "(I)Z" } : Jvm.MethodName)) ∈ lw_all := pt_all (List.mem_of_getElem? (i := 1498) rfl) (by decide +kernel)
set_option maxRecDepth 100000 in
theorem kw_1501 : (Jvm.Cond.methodLink "PuppetTheatreLaw" (157 : Nat) ({ cls := "PuppetTheatreModel", name := "ageOf", desc := "(I)I" } : Jvm.MethodName)) ∈ lw_all := pt_all (List.mem_of_getElem? (i := 1501) rfl) (by decide +kernel)
set_option maxRecDepth 100000 in
theorem kw_1502 : (Jvm.Cond.instanceMethod ({ cls := "PuppetTheatreModel", name := "ageOf", desc := "(I)I" } : Jvm.MethodName)) ∈ lw_all := pt_all (List.mem_of_getElem? (i := 1502) rfl) (by decide +kernel)
set_option maxRecDepth 100000 in
theorem kw_1503 : (Jvm.Cond.selects "PuppetTheatreModel" ({ cls := "PuppetTheatreModel", name := "ageOf", desc := "(I)I" } : Jvm.MethodName) ({ cls := "PuppetTheatreModel", name := "ageOf", desc := "(I)I" } : Jvm.MethodName)) ∈ lw_all := pt_all (List.mem_of_getElem? (i := 1503) rfl) (by decide +kernel)
set_option maxRecDepth 100000 in
theorem kw_1509 : (Jvm.Cond.methodLink "PuppetTheatreLaw" (160 : Nat) ({ cls := "PuppetTheatreModel", name := "record", desc := "(I)I" } : Jvm.MethodName)) ∈ lw_all := pt_all (List.mem_of_getElem? (i := 1509) rfl) (by decide +kernel)
set_option maxRecDepth 100000 in
theorem kw_1510 : (Jvm.Cond.instanceMethod ({ cls := "PuppetTheatreModel", name := "record", desc := "(I)I" } : Jvm.MethodName)) ∈ lw_all := pt_all (List.mem_of_getElem? (i := 1510) rfl) (by decide +kernel)
set_option maxRecDepth 100000 in
theorem kw_1511 : (Jvm.Cond.selects "PuppetTheatreModel" ({ cls := "PuppetTheatreModel", name := "record", desc := "(I)I" } : Jvm.MethodName) ({ cls := "PuppetTheatreModel", name := "record", desc := "(I)I" } : Jvm.MethodName)) ∈ lw_all := pt_all (List.mem_of_getElem? (i := 1511) rfl) (by decide +kernel)
set_option maxRecDepth 100000 in
theorem kw_1513 : (Jvm.Cond.methodLink "PuppetTheatreLaw" (163 : Nat) ({ cls := "PuppetTheatreModel", name := "variable", desc := "(I)I" } : Jvm.MethodName)) ∈ lw_all := pt_all (List.mem_of_getElem? (i := 1513) rfl) (by decide +kernel)
set_option maxRecDepth 100000 in
theorem kw_1514 : (Jvm.Cond.instanceMethod ({ cls := "PuppetTheatreModel", name := "variable", desc := "(I)I" } : Jvm.MethodName)) ∈ lw_all := pt_all (List.mem_of_getElem? (i := 1514) rfl) (by decide +kernel)
set_option maxRecDepth 100000 in
theorem kw_1515 : (Jvm.Cond.selects "PuppetTheatreModel" ({ cls := "PuppetTheatreModel", name := "variable", desc := "(I)I" } : Jvm.MethodName) ({ cls := "PuppetTheatreModel", name := "variable", desc := "(I)I" } : Jvm.MethodName)) ∈ lw_all := pt_all (List.mem_of_getElem? (i := 1515) rfl) (by decide +kernel)
set_option maxRecDepth 100000 in
theorem kw_1517 : (Jvm.Cond.methodLink "PuppetTheatreLaw" (167 : Nat) ({ cls := "PuppetTheatreModel", name := "clock", desc := "()I" } : Jvm.MethodName)) ∈ lw_all := pt_all (List.mem_of_getElem? (i := 1517) rfl) (by decide +kernel)
set_option maxRecDepth 100000 in
theorem kw_1518 : (Jvm.Cond.instanceMethod ({ cls := "PuppetTheatreModel", name := "clock", desc := "()I" } : Jvm.MethodName)) ∈ lw_all := pt_all (List.mem_of_getElem? (i := 1518) rfl) (by decide +kernel)
set_option maxRecDepth 100000 in
theorem kw_1519 : (Jvm.Cond.selects "PuppetTheatreModel" ({ cls := "PuppetTheatreModel", name := "clock", desc := "()I" } : Jvm.MethodName) ({ cls := "PuppetTheatreModel", name := "clock", desc := "()I" } : Jvm.MethodName)) ∈ lw_all := pt_all (List.mem_of_getElem? (i := 1519) rfl) (by decide +kernel)
set_option maxRecDepth 100000 in
theorem kw_1521 : (Jvm.Cond.methodLink "PuppetTheatreLaw" (170 : Nat) ({ cls := "PuppetTheatreModel", name := "fired", desc := "(I)I" } : Jvm.MethodName)) ∈ lw_all := pt_all (List.mem_of_getElem? (i := 1521) rfl) (by decide +kernel)
set_option maxRecDepth 100000 in
theorem kw_1522 : (Jvm.Cond.instanceMethod ({ cls := "PuppetTheatreModel", name := "fired", desc := "(I)I" } : Jvm.MethodName)) ∈ lw_all := pt_all (List.mem_of_getElem? (i := 1522) rfl) (by decide +kernel)
set_option maxRecDepth 100000 in
theorem kw_1523 : (Jvm.Cond.selects "PuppetTheatreModel" ({ cls := "PuppetTheatreModel", name := "fired", desc := "(I)I" } : Jvm.MethodName) ({ cls := "PuppetTheatreModel", name := "fired", desc := "(I)I" } : Jvm.MethodName)) ∈ lw_all := pt_all (List.mem_of_getElem? (i := 1523) rfl) (by decide +kernel)
set_option maxRecDepth 100000 in
theorem kw_1525 : (Jvm.Cond.methodLink "PuppetTheatreLaw" (174 : Nat) ({ cls := "PuppetTheatreModel", name := "covered", desc := "()I" } : Jvm.MethodName)) ∈ lw_all := pt_all (List.mem_of_getElem? (i := 1525) rfl) (by decide +kernel)
set_option maxRecDepth 100000 in
theorem kw_1526 : (Jvm.Cond.instanceMethod ({ cls := "PuppetTheatreModel", name := "covered", desc := "()I" } : Jvm.MethodName)) ∈ lw_all := pt_all (List.mem_of_getElem? (i := 1526) rfl) (by decide +kernel)
set_option maxRecDepth 100000 in
theorem kw_1527 : (Jvm.Cond.selects "PuppetTheatreModel" ({ cls := "PuppetTheatreModel", name := "covered", desc := "()I" } : Jvm.MethodName) ({ cls := "PuppetTheatreModel", name := "covered", desc := "()I" } : Jvm.MethodName)) ∈ lw_all := pt_all (List.mem_of_getElem? (i := 1527) rfl) (by decide +kernel)
set_option maxRecDepth 100000 in
theorem kw_1533 : (Jvm.Cond.methodLink "PuppetTheatreLaw" (178 : Nat) ({ cls := "PuppetTheatreModel", name := "lost", desc := "()I" } : Jvm.MethodName)) ∈ lw_all := pt_all (List.mem_of_getElem? (i := 1533) rfl) (by decide +kernel)
set_option maxRecDepth 100000 in
theorem kw_1534 : (Jvm.Cond.instanceMethod ({ cls := "PuppetTheatreModel", name := "lost", desc := "()I" } : Jvm.MethodName)) ∈ lw_all := pt_all (List.mem_of_getElem? (i := 1534) rfl) (by decide +kernel)
set_option maxRecDepth 100000 in
theorem kw_1535 : (Jvm.Cond.selects "PuppetTheatreModel" ({ cls := "PuppetTheatreModel", name := "lost", desc := "()I" } : Jvm.MethodName) ({ cls := "PuppetTheatreModel", name := "lost", desc := "()I" } : Jvm.MethodName)) ∈ lw_all := pt_all (List.mem_of_getElem? (i := 1535) rfl) (by decide +kernel)
set_option maxRecDepth 100000 in
theorem kw_1537 : (Jvm.Cond.methodLink "PuppetTheatreLaw" (182 : Nat) ({ cls := "PuppetTheatreModel", name := "restless", desc := "()I" } : Jvm.MethodName)) ∈ lw_all := pt_all (List.mem_of_getElem? (i := 1537) rfl) (by decide +kernel)
set_option maxRecDepth 100000 in
theorem kw_1538 : (Jvm.Cond.instanceMethod ({ cls := "PuppetTheatreModel", name := "restless", desc := "()I" } : Jvm.MethodName)) ∈ lw_all := pt_all (List.mem_of_getElem? (i := 1538) rfl) (by decide +kernel)
set_option maxRecDepth 100000 in
theorem kw_1539 : (Jvm.Cond.selects "PuppetTheatreModel" ({ cls := "PuppetTheatreModel", name := "restless", desc := "()I" } : Jvm.MethodName) ({ cls := "PuppetTheatreModel", name := "restless", desc := "()I" } : Jvm.MethodName)) ∈ lw_all := pt_all (List.mem_of_getElem? (i := 1539) rfl) (by decide +kernel)
set_option maxRecDepth 100000 in
theorem kw_1541 : (Jvm.Cond.methodLink "PuppetTheatreLaw" (185 : Nat) ({ cls := "PuppetTheatreModel", name := "wouldFire", desc := "(I)I" } : Jvm.MethodName)) ∈ lw_all := pt_all (List.mem_of_getElem? (i := 1541) rfl) (by decide +kernel)
set_option maxRecDepth 100000 in
theorem kw_1542 : (Jvm.Cond.instanceMethod ({ cls := "PuppetTheatreModel", name := "wouldFire", desc := "(I)I" } : Jvm.MethodName)) ∈ lw_all := pt_all (List.mem_of_getElem? (i := 1542) rfl) (by decide +kernel)
set_option maxRecDepth 100000 in
theorem kw_1543 : (Jvm.Cond.selects "PuppetTheatreModel" ({ cls := "PuppetTheatreModel", name := "wouldFire", desc := "(I)I" } : Jvm.MethodName) ({ cls := "PuppetTheatreModel", name := "wouldFire", desc := "(I)I" } : Jvm.MethodName)) ∈ lw_all := pt_all (List.mem_of_getElem? (i := 1543) rfl) (by decide +kernel)
set_option maxRecDepth 100000 in
theorem kw_1580 : (Jvm.Cond.methodLink "PuppetTheatreLaw" (188 : Nat) ({ cls := "PuppetTheatreModel", name := "wouldBe", desc := "(I)I" } : Jvm.MethodName)) ∈ lw_all := pt_all (List.mem_of_getElem? (i := 1580) rfl) (by decide +kernel)
set_option maxRecDepth 100000 in
theorem kw_1581 : (Jvm.Cond.instanceMethod ({ cls := "PuppetTheatreModel", name := "wouldBe", desc := "(I)I" } : Jvm.MethodName)) ∈ lw_all := pt_all (List.mem_of_getElem? (i := 1581) rfl) (by decide +kernel)
set_option maxRecDepth 100000 in
theorem kw_1582 : (Jvm.Cond.selects "PuppetTheatreModel" ({ cls := "PuppetTheatreModel", name := "wouldBe", desc := "(I)I" } : Jvm.MethodName) ({ cls := "PuppetTheatreModel", name := "wouldBe", desc := "(I)I" } : Jvm.MethodName)) ∈ lw_all := pt_all (List.mem_of_getElem? (i := 1582) rfl) (by decide +kernel)
set_option maxRecDepth 100000 in
theorem kw_1584 : (Jvm.Cond.methodLink "PuppetTheatreLaw" (191 : Nat) ({ cls := "PuppetTheatreModel", name := "open", desc := "()I" } : Jvm.MethodName)) ∈ lw_all := pt_all (List.mem_of_getElem? (i := 1584) rfl) (by decide +kernel)
set_option maxRecDepth 100000 in
theorem kw_1585 : (Jvm.Cond.instanceMethod ({ cls := "PuppetTheatreModel", name := "open", desc := "()I" } : Jvm.MethodName)) ∈ lw_all := pt_all (List.mem_of_getElem? (i := 1585) rfl) (by decide +kernel)
set_option maxRecDepth 100000 in
theorem kw_1586 : (Jvm.Cond.selects "PuppetTheatreModel" ({ cls := "PuppetTheatreModel", name := "open", desc := "()I" } : Jvm.MethodName) ({ cls := "PuppetTheatreModel", name := "open", desc := "()I" } : Jvm.MethodName)) ∈ lw_all := pt_all (List.mem_of_getElem? (i := 1586) rfl) (by decide +kernel)
set_option maxRecDepth 100000 in
theorem kw_1589 : (Jvm.Cond.methodLink "PuppetTheatreLaw" (194 : Nat) ({ cls := "PuppetTheatreModel", name := "rowTo", desc := "(II)I" } : Jvm.MethodName)) ∈ lw_all := pt_all (List.mem_of_getElem? (i := 1589) rfl) (by decide +kernel)
set_option maxRecDepth 100000 in
theorem kw_1590 : (Jvm.Cond.instanceMethod ({ cls := "PuppetTheatreModel", name := "rowTo", desc := "(II)I" } : Jvm.MethodName)) ∈ lw_all := pt_all (List.mem_of_getElem? (i := 1590) rfl) (by decide +kernel)
set_option maxRecDepth 100000 in
theorem kw_1591 : (Jvm.Cond.selects "PuppetTheatreModel" ({ cls := "PuppetTheatreModel", name := "rowTo", desc := "(II)I" } : Jvm.MethodName) ({ cls := "PuppetTheatreModel", name := "rowTo", desc := "(II)I" } : Jvm.MethodName)) ∈ lw_all := pt_all (List.mem_of_getElem? (i := 1591) rfl) (by decide +kernel)
set_option maxRecDepth 100000 in
theorem kw_1611 : (Jvm.Cond.methodLink "PuppetTheatreLaw" (197 : Nat) ({ cls := "PuppetTheatreModel", name := "rowFor", desc := "(II)I" } : Jvm.MethodName)) ∈ lw_all := pt_all (List.mem_of_getElem? (i := 1611) rfl) (by decide +kernel)
set_option maxRecDepth 100000 in
theorem kw_1612 : (Jvm.Cond.instanceMethod ({ cls := "PuppetTheatreModel", name := "rowFor", desc := "(II)I" } : Jvm.MethodName)) ∈ lw_all := pt_all (List.mem_of_getElem? (i := 1612) rfl) (by decide +kernel)
set_option maxRecDepth 100000 in
theorem kw_1613 : (Jvm.Cond.selects "PuppetTheatreModel" ({ cls := "PuppetTheatreModel", name := "rowFor", desc := "(II)I" } : Jvm.MethodName) ({ cls := "PuppetTheatreModel", name := "rowFor", desc := "(II)I" } : Jvm.MethodName)) ∈ lw_all := pt_all (List.mem_of_getElem? (i := 1613) rfl) (by decide +kernel)
set_option maxRecDepth 100000 in
theorem kw_1615 : (Jvm.Cond.methodLink "PuppetTheatreLaw" (201 : Nat) ({ cls := "PuppetTheatreModel", name := "rowAt", desc := "(I)I" } : Jvm.MethodName)) ∈ lw_all := pt_all (List.mem_of_getElem? (i := 1615) rfl) (by decide +kernel)
set_option maxRecDepth 100000 in
theorem kw_1616 : (Jvm.Cond.instanceMethod ({ cls := "PuppetTheatreModel", name := "rowAt", desc := "(I)I" } : Jvm.MethodName)) ∈ lw_all := pt_all (List.mem_of_getElem? (i := 1616) rfl) (by decide +kernel)
set_option maxRecDepth 100000 in
theorem kw_1617 : (Jvm.Cond.selects "PuppetTheatreModel" ({ cls := "PuppetTheatreModel", name := "rowAt", desc := "(I)I" } : Jvm.MethodName) ({ cls := "PuppetTheatreModel", name := "rowAt", desc := "(I)I" } : Jvm.MethodName)) ∈ lw_all := pt_all (List.mem_of_getElem? (i := 1617) rfl) (by decide +kernel)
set_option maxRecDepth 100000 in
theorem kw_1623 : (Jvm.Cond.methodLink "PuppetTheatreLaw" (205 : Nat) ({ cls := "PuppetTheatreModel", name := "looked", desc := "()I" } : Jvm.MethodName)) ∈ lw_all := pt_all (List.mem_of_getElem? (i := 1623) rfl) (by decide +kernel)
set_option maxRecDepth 100000 in
theorem kw_1624 : (Jvm.Cond.instanceMethod ({ cls := "PuppetTheatreModel", name := "looked", desc := "()I" } : Jvm.MethodName)) ∈ lw_all := pt_all (List.mem_of_getElem? (i := 1624) rfl) (by decide +kernel)
set_option maxRecDepth 100000 in
theorem kw_1625 : (Jvm.Cond.selects "PuppetTheatreModel" ({ cls := "PuppetTheatreModel", name := "looked", desc := "()I" } : Jvm.MethodName) ({ cls := "PuppetTheatreModel", name := "looked", desc := "()I" } : Jvm.MethodName)) ∈ lw_all := pt_all (List.mem_of_getElem? (i := 1625) rfl) (by decide +kernel)
set_option maxRecDepth 100000 in
theorem kw_1627 : (Jvm.Cond.methodLink "PuppetTheatreLaw" (210 : Nat) ({ cls := "PuppetTheatreModel", name := "meanAge", desc := "()D" } : Jvm.MethodName)) ∈ lw_all := pt_all (List.mem_of_getElem? (i := 1627) rfl) (by decide +kernel)
set_option maxRecDepth 100000 in
theorem kw_1628 : (Jvm.Cond.instanceMethod ({ cls := "PuppetTheatreModel", name := "meanAge", desc := "()D" } : Jvm.MethodName)) ∈ lw_all := pt_all (List.mem_of_getElem? (i := 1628) rfl) (by decide +kernel)
set_option maxRecDepth 100000 in
theorem kw_1629 : (Jvm.Cond.selects "PuppetTheatreModel" ({ cls := "PuppetTheatreModel", name := "meanAge", desc := "()D" } : Jvm.MethodName) ({ cls := "PuppetTheatreModel", name := "meanAge", desc := "()D" } : Jvm.MethodName)) ∈ lw_all := pt_all (List.mem_of_getElem? (i := 1629) rfl) (by decide +kernel)
set_option maxRecDepth 100000 in
theorem kw_1631 : (Jvm.Cond.methodLink "PuppetTheatreLaw" (215 : Nat) ({ cls := "PuppetTheatreModel", name := "digest", desc := "()J" } : Jvm.MethodName)) ∈ lw_all := pt_all (List.mem_of_getElem? (i := 1631) rfl) (by decide +kernel)
set_option maxRecDepth 100000 in
theorem kw_1632 : (Jvm.Cond.instanceMethod ({ cls := "PuppetTheatreModel", name := "digest", desc := "()J" } : Jvm.MethodName)) ∈ lw_all := pt_all (List.mem_of_getElem? (i := 1632) rfl) (by decide +kernel)
set_option maxRecDepth 100000 in
theorem kw_1633 : (Jvm.Cond.selects "PuppetTheatreModel" ({ cls := "PuppetTheatreModel", name := "digest", desc := "()J" } : Jvm.MethodName) ({ cls := "PuppetTheatreModel", name := "digest", desc := "()J" } : Jvm.MethodName)) ∈ lw_all := pt_all (List.mem_of_getElem? (i := 1633) rfl) (by decide +kernel)
theorem dL_law_0 : decode cL_law 0 = .ok (.new 8, 3) := by decide +kernel
theorem dL_law_3 : decode cL_law 3 = .ok (.dup, 1) := by decide +kernel
theorem dL_law_4 : decode cL_law 4 = .ok (.invokespecial 84, 3) := by decide +kernel
theorem dL_law_7 : decode cL_law 7 = .ok (.astore_n 1, 1) := by decide +kernel
theorem dL_law_8 : decode cL_law 8 = .ok (.new 85, 3) := by decide +kernel
theorem dL_law_11 : decode cL_law 11 = .ok (.dup, 1) := by decide +kernel
theorem dL_law_12 : decode cL_law 12 = .ok (.invokespecial 87, 3) := by decide +kernel
theorem dL_law_15 : decode cL_law 15 = .ok (.astore_n 2, 1) := by decide +kernel
theorem dL_law_16 : decode cL_law 16 = .ok (.iconst 1, 1) := by decide +kernel
theorem dL_law_17 : decode cL_law 17 = .ok (.newarray .long, 2) := by decide +kernel
theorem dL_law_19 : decode cL_law 19 = .ok (.astore_n 3, 1) := by decide +kernel
theorem dL_law_20 : decode cL_law 20 = .ok (.iconst 0, 1) := by decide +kernel
theorem dL_law_21 : decode cL_law 21 = .ok (.istore 4, 2) := by decide +kernel
theorem dL_law_23 : decode cL_law 23 = .ok (.iload 4, 2) := by decide +kernel
theorem dL_law_25 : decode cL_law 25 = .ok (.aload_n 0, 1) := by decide +kernel
theorem dL_law_26 : decode cL_law 26 = .ok (.arraylength, 1) := by decide +kernel
theorem dL_law_27 : decode cL_law 27 = .ok (.bipush 6, 2) := by decide +kernel
theorem dL_law_29 : decode cL_law 29 = .ok (.isub, 1) := by decide +kernel
theorem dL_law_30 : decode cL_law 30 = .ok (.if_icmp .gt 1757, 3) := by decide +kernel
theorem dL_law_33 : decode cL_law 33 = .ok (.aload_n 0, 1) := by decide +kernel
theorem dL_law_34 : decode cL_law 34 = .ok (.iload 4, 2) := by decide +kernel
theorem dL_law_36 : decode cL_law 36 = .ok (.iaload, 1) := by decide +kernel
theorem dL_law_37 : decode cL_law 37 = .ok (.bipush 63, 2) := by decide +kernel
theorem dL_law_39 : decode cL_law 39 = .ok (.iand, 1) := by decide +kernel
theorem dL_law_40 : decode cL_law 40 = .ok (.tableswitch 1741 0 33 #[152, 220, 288, 408, 500, 592, 684, 728, 772, 828, 884, 897, 910, 978, 991, 1004, 1017, 1080, 1136, 1192, 1248, 1261, 1317, 1330, 1343, 1356, 1412, 1468, 1512, 1580, 1648, 1673, 1686, 1727], 152) := by decide +kernel
theorem dL_law_192 : decode cL_law 192 = .ok (.aload_n 1, 1) := by decide +kernel
theorem dL_law_193 : decode cL_law 193 = .ok (.aload_n 0, 1) := by decide +kernel
theorem dL_law_194 : decode cL_law 194 = .ok (.iload 4, 2) := by decide +kernel
theorem dL_law_196 : decode cL_law 196 = .ok (.iconst 1, 1) := by decide +kernel
theorem dL_law_197 : decode cL_law 197 = .ok (.iadd, 1) := by decide +kernel
theorem dL_law_198 : decode cL_law 198 = .ok (.iaload, 1) := by decide +kernel
theorem dL_law_199 : decode cL_law 199 = .ok (.aload_n 0, 1) := by decide +kernel
theorem dL_law_200 : decode cL_law 200 = .ok (.iload 4, 2) := by decide +kernel
theorem dL_law_202 : decode cL_law 202 = .ok (.iconst 2, 1) := by decide +kernel
theorem dL_law_203 : decode cL_law 203 = .ok (.iadd, 1) := by decide +kernel
theorem dL_law_204 : decode cL_law 204 = .ok (.iaload, 1) := by decide +kernel
theorem dL_law_205 : decode cL_law 205 = .ok (.aload_n 3, 1) := by decide +kernel
theorem dL_law_206 : decode cL_law 206 = .ok (.invokestatic 88, 3) := by decide +kernel
theorem dL_law_209 : decode cL_law 209 = .ok (.istore 5, 2) := by decide +kernel
theorem dL_law_211 : decode cL_law 211 = .ok (.aload_n 2, 1) := by decide +kernel
theorem dL_law_212 : decode cL_law 212 = .ok (.aload_n 0, 1) := by decide +kernel
theorem dL_law_213 : decode cL_law 213 = .ok (.iload 4, 2) := by decide +kernel
theorem dL_law_215 : decode cL_law 215 = .ok (.iconst 1, 1) := by decide +kernel
theorem dL_law_216 : decode cL_law 216 = .ok (.iadd, 1) := by decide +kernel
theorem dL_law_217 : decode cL_law 217 = .ok (.iaload, 1) := by decide +kernel
theorem dL_law_218 : decode cL_law 218 = .ok (.aload_n 0, 1) := by decide +kernel
theorem dL_law_219 : decode cL_law 219 = .ok (.iload 4, 2) := by decide +kernel
theorem dL_law_221 : decode cL_law 221 = .ok (.iconst 2, 1) := by decide +kernel
theorem dL_law_222 : decode cL_law 222 = .ok (.iadd, 1) := by decide +kernel
theorem dL_law_223 : decode cL_law 223 = .ok (.iaload, 1) := by decide +kernel
theorem dL_law_224 : decode cL_law 224 = .ok (.invokevirtual 93, 3) := by decide +kernel
theorem dL_law_227 : decode cL_law 227 = .ok (.istore 6, 2) := by decide +kernel
theorem dL_law_229 : decode cL_law 229 = .ok (.aload_n 2, 1) := by decide +kernel
theorem dL_law_230 : decode cL_law 230 = .ok (.invokevirtual 94, 3) := by decide +kernel
theorem dL_law_233 : decode cL_law 233 = .ok (.iload 5, 2) := by decide +kernel
theorem dL_law_235 : decode cL_law 235 = .ok (.if_icmp .eq 5, 3) := by decide +kernel
theorem dL_law_238 : decode cL_law 238 = .ok (.iconst 0, 1) := by decide +kernel
theorem dL_law_239 : decode cL_law 239 = .ok (.ireturn, 1) := by decide +kernel
theorem dL_law_240 : decode cL_law 240 = .ok (.iload 5, 2) := by decide +kernel
theorem dL_law_242 : decode cL_law 242 = .ok (.ifCond .ne 15, 3) := by decide +kernel
theorem dL_law_245 : decode cL_law 245 = .ok (.aload_n 3, 1) := by decide +kernel
theorem dL_law_246 : decode cL_law 246 = .ok (.iconst 0, 1) := by decide +kernel
theorem dL_law_247 : decode cL_law 247 = .ok (.laload, 1) := by decide +kernel
theorem dL_law_248 : decode cL_law 248 = .ok (.iload 6, 2) := by decide +kernel
theorem dL_law_250 : decode cL_law 250 = .ok (.i2l, 1) := by decide +kernel
theorem dL_law_251 : decode cL_law 251 = .ok (.lcmp, 1) := by decide +kernel
theorem dL_law_252 : decode cL_law 252 = .ok (.ifCond .eq 5, 3) := by decide +kernel
theorem dL_law_255 : decode cL_law 255 = .ok (.iconst 0, 1) := by decide +kernel
theorem dL_law_256 : decode cL_law 256 = .ok (.ireturn, 1) := by decide +kernel
theorem dL_law_257 : decode cL_law 257 = .ok (.goto 1524, 3) := by decide +kernel
theorem dL_law_260 : decode cL_law 260 = .ok (.aload_n 1, 1) := by decide +kernel
theorem dL_law_261 : decode cL_law 261 = .ok (.aload_n 0, 1) := by decide +kernel
theorem dL_law_262 : decode cL_law 262 = .ok (.iload 4, 2) := by decide +kernel
theorem dL_law_264 : decode cL_law 264 = .ok (.iconst 1, 1) := by decide +kernel
theorem dL_law_265 : decode cL_law 265 = .ok (.iadd, 1) := by decide +kernel
theorem dL_law_266 : decode cL_law 266 = .ok (.iaload, 1) := by decide +kernel
theorem dL_law_267 : decode cL_law 267 = .ok (.aload_n 0, 1) := by decide +kernel
theorem dL_law_268 : decode cL_law 268 = .ok (.iload 4, 2) := by decide +kernel
theorem dL_law_270 : decode cL_law 270 = .ok (.iconst 2, 1) := by decide +kernel
theorem dL_law_271 : decode cL_law 271 = .ok (.iadd, 1) := by decide +kernel
theorem dL_law_272 : decode cL_law 272 = .ok (.iaload, 1) := by decide +kernel
theorem dL_law_273 : decode cL_law 273 = .ok (.aload_n 3, 1) := by decide +kernel
theorem dL_law_274 : decode cL_law 274 = .ok (.invokestatic 97, 3) := by decide +kernel
theorem dL_law_277 : decode cL_law 277 = .ok (.istore 5, 2) := by decide +kernel
theorem dL_law_279 : decode cL_law 279 = .ok (.aload_n 2, 1) := by decide +kernel
theorem dL_law_280 : decode cL_law 280 = .ok (.aload_n 0, 1) := by decide +kernel
theorem dL_law_281 : decode cL_law 281 = .ok (.iload 4, 2) := by decide +kernel
theorem dL_law_283 : decode cL_law 283 = .ok (.iconst 1, 1) := by decide +kernel
theorem dL_law_284 : decode cL_law 284 = .ok (.iadd, 1) := by decide +kernel
theorem dL_law_285 : decode cL_law 285 = .ok (.iaload, 1) := by decide +kernel
theorem dL_law_286 : decode cL_law 286 = .ok (.aload_n 0, 1) := by decide +kernel
theorem dL_law_287 : decode cL_law 287 = .ok (.iload 4, 2) := by decide +kernel
theorem dL_law_289 : decode cL_law 289 = .ok (.iconst 2, 1) := by decide +kernel
theorem dL_law_290 : decode cL_law 290 = .ok (.iadd, 1) := by decide +kernel
theorem dL_law_291 : decode cL_law 291 = .ok (.iaload, 1) := by decide +kernel
theorem dL_law_292 : decode cL_law 292 = .ok (.invokevirtual 99, 3) := by decide +kernel
theorem dL_law_295 : decode cL_law 295 = .ok (.istore 6, 2) := by decide +kernel
theorem dL_law_297 : decode cL_law 297 = .ok (.aload_n 2, 1) := by decide +kernel
theorem dL_law_298 : decode cL_law 298 = .ok (.invokevirtual 94, 3) := by decide +kernel
theorem dL_law_301 : decode cL_law 301 = .ok (.iload 5, 2) := by decide +kernel
theorem dL_law_303 : decode cL_law 303 = .ok (.if_icmp .eq 5, 3) := by decide +kernel
theorem dL_law_306 : decode cL_law 306 = .ok (.iconst 0, 1) := by decide +kernel
theorem dL_law_307 : decode cL_law 307 = .ok (.ireturn, 1) := by decide +kernel
theorem dL_law_308 : decode cL_law 308 = .ok (.iload 5, 2) := by decide +kernel
theorem dL_law_310 : decode cL_law 310 = .ok (.ifCond .ne 15, 3) := by decide +kernel
theorem dL_law_313 : decode cL_law 313 = .ok (.aload_n 3, 1) := by decide +kernel
theorem dL_law_314 : decode cL_law 314 = .ok (.iconst 0, 1) := by decide +kernel
theorem dL_law_315 : decode cL_law 315 = .ok (.laload, 1) := by decide +kernel
theorem dL_law_316 : decode cL_law 316 = .ok (.iload 6, 2) := by decide +kernel
theorem dL_law_318 : decode cL_law 318 = .ok (.i2l, 1) := by decide +kernel
theorem dL_law_319 : decode cL_law 319 = .ok (.lcmp, 1) := by decide +kernel
theorem dL_law_320 : decode cL_law 320 = .ok (.ifCond .eq 5, 3) := by decide +kernel
theorem dL_law_323 : decode cL_law 323 = .ok (.iconst 0, 1) := by decide +kernel
theorem dL_law_324 : decode cL_law 324 = .ok (.ireturn, 1) := by decide +kernel
theorem dL_law_325 : decode cL_law 325 = .ok (.goto 1456, 3) := by decide +kernel
theorem dL_law_328 : decode cL_law 328 = .ok (.aload_n 1, 1) := by decide +kernel
theorem dL_law_329 : decode cL_law 329 = .ok (.aload_n 0, 1) := by decide +kernel
theorem dL_law_330 : decode cL_law 330 = .ok (.iload 4, 2) := by decide +kernel
theorem dL_law_332 : decode cL_law 332 = .ok (.iconst 1, 1) := by decide +kernel
theorem dL_law_333 : decode cL_law 333 = .ok (.iadd, 1) := by decide +kernel
theorem dL_law_334 : decode cL_law 334 = .ok (.iaload, 1) := by decide +kernel
theorem dL_law_335 : decode cL_law 335 = .ok (.aload_n 0, 1) := by decide +kernel
theorem dL_law_336 : decode cL_law 336 = .ok (.iload 4, 2) := by decide +kernel
theorem dL_law_338 : decode cL_law 338 = .ok (.iconst 2, 1) := by decide +kernel
theorem dL_law_339 : decode cL_law 339 = .ok (.iadd, 1) := by decide +kernel
theorem dL_law_340 : decode cL_law 340 = .ok (.iaload, 1) := by decide +kernel
theorem dL_law_341 : decode cL_law 341 = .ok (.ifCond .eq 7, 3) := by decide +kernel
theorem dL_law_344 : decode cL_law 344 = .ok (.iconst 1, 1) := by decide +kernel
theorem dL_law_345 : decode cL_law 345 = .ok (.goto 4, 3) := by decide +kernel
theorem dL_law_348 : decode cL_law 348 = .ok (.iconst 0, 1) := by decide +kernel
theorem dL_law_349 : decode cL_law 349 = .ok (.aload_n 0, 1) := by decide +kernel
theorem dL_law_350 : decode cL_law 350 = .ok (.iload 4, 2) := by decide +kernel
theorem dL_law_352 : decode cL_law 352 = .ok (.iconst 3, 1) := by decide +kernel
theorem dL_law_353 : decode cL_law 353 = .ok (.iadd, 1) := by decide +kernel
theorem dL_law_354 : decode cL_law 354 = .ok (.iaload, 1) := by decide +kernel
theorem dL_law_355 : decode cL_law 355 = .ok (.aload_n 0, 1) := by decide +kernel
theorem dL_law_356 : decode cL_law 356 = .ok (.iload 4, 2) := by decide +kernel
theorem dL_law_358 : decode cL_law 358 = .ok (.iconst 4, 1) := by decide +kernel
theorem dL_law_359 : decode cL_law 359 = .ok (.iadd, 1) := by decide +kernel
theorem dL_law_360 : decode cL_law 360 = .ok (.iaload, 1) := by decide +kernel
theorem dL_law_361 : decode cL_law 361 = .ok (.aload_n 0, 1) := by decide +kernel
theorem dL_law_362 : decode cL_law 362 = .ok (.iload 4, 2) := by decide +kernel
theorem dL_law_364 : decode cL_law 364 = .ok (.iconst 5, 1) := by decide +kernel
theorem dL_law_365 : decode cL_law 365 = .ok (.iadd, 1) := by decide +kernel
theorem dL_law_366 : decode cL_law 366 = .ok (.iaload, 1) := by decide +kernel
theorem dL_law_367 : decode cL_law 367 = .ok (.aload_n 3, 1) := by decide +kernel
theorem dL_law_368 : decode cL_law 368 = .ok (.invokestatic 100, 3) := by decide +kernel
theorem dL_law_371 : decode cL_law 371 = .ok (.istore 5, 2) := by decide +kernel
theorem dL_law_373 : decode cL_law 373 = .ok (.aload_n 2, 1) := by decide +kernel
theorem dL_law_374 : decode cL_law 374 = .ok (.aload_n 0, 1) := by decide +kernel
theorem dL_law_375 : decode cL_law 375 = .ok (.iload 4, 2) := by decide +kernel
theorem dL_law_377 : decode cL_law 377 = .ok (.iconst 1, 1) := by decide +kernel
theorem dL_law_378 : decode cL_law 378 = .ok (.iadd, 1) := by decide +kernel
theorem dL_law_379 : decode cL_law 379 = .ok (.iaload, 1) := by decide +kernel
theorem dL_law_380 : decode cL_law 380 = .ok (.aload_n 0, 1) := by decide +kernel
theorem dL_law_381 : decode cL_law 381 = .ok (.iload 4, 2) := by decide +kernel
theorem dL_law_383 : decode cL_law 383 = .ok (.iconst 2, 1) := by decide +kernel
theorem dL_law_384 : decode cL_law 384 = .ok (.iadd, 1) := by decide +kernel
theorem dL_law_385 : decode cL_law 385 = .ok (.iaload, 1) := by decide +kernel
theorem dL_law_386 : decode cL_law 386 = .ok (.ifCond .eq 7, 3) := by decide +kernel
theorem dL_law_389 : decode cL_law 389 = .ok (.iconst 1, 1) := by decide +kernel
theorem dL_law_390 : decode cL_law 390 = .ok (.goto 4, 3) := by decide +kernel
theorem dL_law_393 : decode cL_law 393 = .ok (.iconst 0, 1) := by decide +kernel
theorem dL_law_394 : decode cL_law 394 = .ok (.aload_n 0, 1) := by decide +kernel
theorem dL_law_395 : decode cL_law 395 = .ok (.iload 4, 2) := by decide +kernel
theorem dL_law_397 : decode cL_law 397 = .ok (.iconst 3, 1) := by decide +kernel
theorem dL_law_398 : decode cL_law 398 = .ok (.iadd, 1) := by decide +kernel
theorem dL_law_399 : decode cL_law 399 = .ok (.iaload, 1) := by decide +kernel
theorem dL_law_400 : decode cL_law 400 = .ok (.aload_n 0, 1) := by decide +kernel
theorem dL_law_401 : decode cL_law 401 = .ok (.iload 4, 2) := by decide +kernel
theorem dL_law_403 : decode cL_law 403 = .ok (.iconst 4, 1) := by decide +kernel
theorem dL_law_404 : decode cL_law 404 = .ok (.iadd, 1) := by decide +kernel
theorem dL_law_405 : decode cL_law 405 = .ok (.iaload, 1) := by decide +kernel
theorem dL_law_406 : decode cL_law 406 = .ok (.aload_n 0, 1) := by decide +kernel
theorem dL_law_407 : decode cL_law 407 = .ok (.iload 4, 2) := by decide +kernel
theorem dL_law_409 : decode cL_law 409 = .ok (.iconst 5, 1) := by decide +kernel
theorem dL_law_410 : decode cL_law 410 = .ok (.iadd, 1) := by decide +kernel
theorem dL_law_411 : decode cL_law 411 = .ok (.iaload, 1) := by decide +kernel
theorem dL_law_412 : decode cL_law 412 = .ok (.invokevirtual 103, 3) := by decide +kernel
theorem dL_law_415 : decode cL_law 415 = .ok (.istore 6, 2) := by decide +kernel
theorem dL_law_417 : decode cL_law 417 = .ok (.aload_n 2, 1) := by decide +kernel
theorem dL_law_418 : decode cL_law 418 = .ok (.invokevirtual 94, 3) := by decide +kernel
theorem dL_law_421 : decode cL_law 421 = .ok (.iload 5, 2) := by decide +kernel
theorem dL_law_423 : decode cL_law 423 = .ok (.if_icmp .eq 5, 3) := by decide +kernel
theorem dL_law_426 : decode cL_law 426 = .ok (.iconst 0, 1) := by decide +kernel
theorem dL_law_427 : decode cL_law 427 = .ok (.ireturn, 1) := by decide +kernel
theorem dL_law_428 : decode cL_law 428 = .ok (.iload 5, 2) := by decide +kernel
theorem dL_law_430 : decode cL_law 430 = .ok (.ifCond .ne 15, 3) := by decide +kernel
theorem dL_law_433 : decode cL_law 433 = .ok (.aload_n 3, 1) := by decide +kernel
theorem dL_law_434 : decode cL_law 434 = .ok (.iconst 0, 1) := by decide +kernel
theorem dL_law_435 : decode cL_law 435 = .ok (.laload, 1) := by decide +kernel
theorem dL_law_436 : decode cL_law 436 = .ok (.iload 6, 2) := by decide +kernel
theorem dL_law_438 : decode cL_law 438 = .ok (.i2l, 1) := by decide +kernel
theorem dL_law_439 : decode cL_law 439 = .ok (.lcmp, 1) := by decide +kernel
theorem dL_law_440 : decode cL_law 440 = .ok (.ifCond .eq 5, 3) := by decide +kernel
theorem dL_law_443 : decode cL_law 443 = .ok (.iconst 0, 1) := by decide +kernel
theorem dL_law_444 : decode cL_law 444 = .ok (.ireturn, 1) := by decide +kernel
theorem dL_law_445 : decode cL_law 445 = .ok (.goto 1336, 3) := by decide +kernel
theorem dL_law_448 : decode cL_law 448 = .ok (.aload_n 1, 1) := by decide +kernel
theorem dL_law_449 : decode cL_law 449 = .ok (.aload_n 0, 1) := by decide +kernel
theorem dL_law_450 : decode cL_law 450 = .ok (.iload 4, 2) := by decide +kernel
theorem dL_law_452 : decode cL_law 452 = .ok (.iconst 1, 1) := by decide +kernel
theorem dL_law_453 : decode cL_law 453 = .ok (.iadd, 1) := by decide +kernel
theorem dL_law_454 : decode cL_law 454 = .ok (.iaload, 1) := by decide +kernel
theorem dL_law_455 : decode cL_law 455 = .ok (.aload_n 0, 1) := by decide +kernel
theorem dL_law_456 : decode cL_law 456 = .ok (.iload 4, 2) := by decide +kernel
theorem dL_law_458 : decode cL_law 458 = .ok (.iconst 2, 1) := by decide +kernel
theorem dL_law_459 : decode cL_law 459 = .ok (.iadd, 1) := by decide +kernel
theorem dL_law_460 : decode cL_law 460 = .ok (.iaload, 1) := by decide +kernel
theorem dL_law_461 : decode cL_law 461 = .ok (.aload_n 0, 1) := by decide +kernel
theorem dL_law_462 : decode cL_law 462 = .ok (.iload 4, 2) := by decide +kernel
theorem dL_law_464 : decode cL_law 464 = .ok (.iconst 3, 1) := by decide +kernel
theorem dL_law_465 : decode cL_law 465 = .ok (.iadd, 1) := by decide +kernel
theorem dL_law_466 : decode cL_law 466 = .ok (.iaload, 1) := by decide +kernel
theorem dL_law_467 : decode cL_law 467 = .ok (.aload_n 0, 1) := by decide +kernel
theorem dL_law_468 : decode cL_law 468 = .ok (.iload 4, 2) := by decide +kernel
theorem dL_law_470 : decode cL_law 470 = .ok (.iconst 4, 1) := by decide +kernel
theorem dL_law_471 : decode cL_law 471 = .ok (.iadd, 1) := by decide +kernel
theorem dL_law_472 : decode cL_law 472 = .ok (.iaload, 1) := by decide +kernel
theorem dL_law_473 : decode cL_law 473 = .ok (.aload_n 3, 1) := by decide +kernel
theorem dL_law_474 : decode cL_law 474 = .ok (.invokestatic 104, 3) := by decide +kernel
theorem dL_law_477 : decode cL_law 477 = .ok (.istore 5, 2) := by decide +kernel
theorem dL_law_479 : decode cL_law 479 = .ok (.aload_n 2, 1) := by decide +kernel
theorem dL_law_480 : decode cL_law 480 = .ok (.aload_n 0, 1) := by decide +kernel
theorem dL_law_481 : decode cL_law 481 = .ok (.iload 4, 2) := by decide +kernel
theorem dL_law_483 : decode cL_law 483 = .ok (.iconst 1, 1) := by decide +kernel
theorem dL_law_484 : decode cL_law 484 = .ok (.iadd, 1) := by decide +kernel
theorem dL_law_485 : decode cL_law 485 = .ok (.iaload, 1) := by decide +kernel
theorem dL_law_486 : decode cL_law 486 = .ok (.aload_n 0, 1) := by decide +kernel
theorem dL_law_487 : decode cL_law 487 = .ok (.iload 4, 2) := by decide +kernel
theorem dL_law_489 : decode cL_law 489 = .ok (.iconst 2, 1) := by decide +kernel
theorem dL_law_490 : decode cL_law 490 = .ok (.iadd, 1) := by decide +kernel
theorem dL_law_491 : decode cL_law 491 = .ok (.iaload, 1) := by decide +kernel
theorem dL_law_492 : decode cL_law 492 = .ok (.aload_n 0, 1) := by decide +kernel
theorem dL_law_493 : decode cL_law 493 = .ok (.iload 4, 2) := by decide +kernel
theorem dL_law_495 : decode cL_law 495 = .ok (.iconst 3, 1) := by decide +kernel
theorem dL_law_496 : decode cL_law 496 = .ok (.iadd, 1) := by decide +kernel
theorem dL_law_497 : decode cL_law 497 = .ok (.iaload, 1) := by decide +kernel
theorem dL_law_498 : decode cL_law 498 = .ok (.aload_n 0, 1) := by decide +kernel
theorem dL_law_499 : decode cL_law 499 = .ok (.iload 4, 2) := by decide +kernel
theorem dL_law_501 : decode cL_law 501 = .ok (.iconst 4, 1) := by decide +kernel
theorem dL_law_502 : decode cL_law 502 = .ok (.iadd, 1) := by decide +kernel
theorem dL_law_503 : decode cL_law 503 = .ok (.iaload, 1) := by decide +kernel
theorem dL_law_504 : decode cL_law 504 = .ok (.invokevirtual 107, 3) := by decide +kernel
theorem dL_law_507 : decode cL_law 507 = .ok (.istore 6, 2) := by decide +kernel
theorem dL_law_509 : decode cL_law 509 = .ok (.aload_n 2, 1) := by decide +kernel
theorem dL_law_510 : decode cL_law 510 = .ok (.invokevirtual 94, 3) := by decide +kernel
theorem dL_law_513 : decode cL_law 513 = .ok (.iload 5, 2) := by decide +kernel
theorem dL_law_515 : decode cL_law 515 = .ok (.if_icmp .eq 5, 3) := by decide +kernel
theorem dL_law_518 : decode cL_law 518 = .ok (.iconst 0, 1) := by decide +kernel
theorem dL_law_519 : decode cL_law 519 = .ok (.ireturn, 1) := by decide +kernel
theorem dL_law_520 : decode cL_law 520 = .ok (.iload 5, 2) := by decide +kernel
theorem dL_law_522 : decode cL_law 522 = .ok (.ifCond .ne 15, 3) := by decide +kernel
theorem dL_law_525 : decode cL_law 525 = .ok (.aload_n 3, 1) := by decide +kernel
theorem dL_law_526 : decode cL_law 526 = .ok (.iconst 0, 1) := by decide +kernel
theorem dL_law_527 : decode cL_law 527 = .ok (.laload, 1) := by decide +kernel
theorem dL_law_528 : decode cL_law 528 = .ok (.iload 6, 2) := by decide +kernel
theorem dL_law_530 : decode cL_law 530 = .ok (.i2l, 1) := by decide +kernel
theorem dL_law_531 : decode cL_law 531 = .ok (.lcmp, 1) := by decide +kernel
theorem dL_law_532 : decode cL_law 532 = .ok (.ifCond .eq 5, 3) := by decide +kernel
theorem dL_law_535 : decode cL_law 535 = .ok (.iconst 0, 1) := by decide +kernel
theorem dL_law_536 : decode cL_law 536 = .ok (.ireturn, 1) := by decide +kernel
theorem dL_law_537 : decode cL_law 537 = .ok (.goto 1244, 3) := by decide +kernel
theorem dL_law_540 : decode cL_law 540 = .ok (.aload_n 1, 1) := by decide +kernel
theorem dL_law_541 : decode cL_law 541 = .ok (.aload_n 0, 1) := by decide +kernel
theorem dL_law_542 : decode cL_law 542 = .ok (.iload 4, 2) := by decide +kernel
theorem dL_law_544 : decode cL_law 544 = .ok (.iconst 1, 1) := by decide +kernel
theorem dL_law_545 : decode cL_law 545 = .ok (.iadd, 1) := by decide +kernel
theorem dL_law_546 : decode cL_law 546 = .ok (.iaload, 1) := by decide +kernel
theorem dL_law_547 : decode cL_law 547 = .ok (.aload_n 0, 1) := by decide +kernel
theorem dL_law_548 : decode cL_law 548 = .ok (.iload 4, 2) := by decide +kernel
theorem dL_law_550 : decode cL_law 550 = .ok (.iconst 2, 1) := by decide +kernel
theorem dL_law_551 : decode cL_law 551 = .ok (.iadd, 1) := by decide +kernel
theorem dL_law_552 : decode cL_law 552 = .ok (.iaload, 1) := by decide +kernel
theorem dL_law_553 : decode cL_law 553 = .ok (.aload_n 0, 1) := by decide +kernel
theorem dL_law_554 : decode cL_law 554 = .ok (.iload 4, 2) := by decide +kernel
theorem dL_law_556 : decode cL_law 556 = .ok (.iconst 3, 1) := by decide +kernel
theorem dL_law_557 : decode cL_law 557 = .ok (.iadd, 1) := by decide +kernel
theorem dL_law_558 : decode cL_law 558 = .ok (.iaload, 1) := by decide +kernel
theorem dL_law_559 : decode cL_law 559 = .ok (.aload_n 0, 1) := by decide +kernel
theorem dL_law_560 : decode cL_law 560 = .ok (.iload 4, 2) := by decide +kernel
theorem dL_law_562 : decode cL_law 562 = .ok (.iconst 4, 1) := by decide +kernel
theorem dL_law_563 : decode cL_law 563 = .ok (.iadd, 1) := by decide +kernel
theorem dL_law_564 : decode cL_law 564 = .ok (.iaload, 1) := by decide +kernel
theorem dL_law_565 : decode cL_law 565 = .ok (.aload_n 3, 1) := by decide +kernel
theorem dL_law_566 : decode cL_law 566 = .ok (.invokestatic 108, 3) := by decide +kernel
theorem dL_law_569 : decode cL_law 569 = .ok (.istore 5, 2) := by decide +kernel
theorem dL_law_571 : decode cL_law 571 = .ok (.aload_n 2, 1) := by decide +kernel
theorem dL_law_572 : decode cL_law 572 = .ok (.aload_n 0, 1) := by decide +kernel
theorem dL_law_573 : decode cL_law 573 = .ok (.iload 4, 2) := by decide +kernel
theorem dL_law_575 : decode cL_law 575 = .ok (.iconst 1, 1) := by decide +kernel
theorem dL_law_576 : decode cL_law 576 = .ok (.iadd, 1) := by decide +kernel
theorem dL_law_577 : decode cL_law 577 = .ok (.iaload, 1) := by decide +kernel
theorem dL_law_578 : decode cL_law 578 = .ok (.aload_n 0, 1) := by decide +kernel
theorem dL_law_579 : decode cL_law 579 = .ok (.iload 4, 2) := by decide +kernel
theorem dL_law_581 : decode cL_law 581 = .ok (.iconst 2, 1) := by decide +kernel
theorem dL_law_582 : decode cL_law 582 = .ok (.iadd, 1) := by decide +kernel
theorem dL_law_583 : decode cL_law 583 = .ok (.iaload, 1) := by decide +kernel
theorem dL_law_584 : decode cL_law 584 = .ok (.aload_n 0, 1) := by decide +kernel
theorem dL_law_585 : decode cL_law 585 = .ok (.iload 4, 2) := by decide +kernel
theorem dL_law_587 : decode cL_law 587 = .ok (.iconst 3, 1) := by decide +kernel
theorem dL_law_588 : decode cL_law 588 = .ok (.iadd, 1) := by decide +kernel
theorem dL_law_589 : decode cL_law 589 = .ok (.iaload, 1) := by decide +kernel
theorem dL_law_590 : decode cL_law 590 = .ok (.aload_n 0, 1) := by decide +kernel
theorem dL_law_591 : decode cL_law 591 = .ok (.iload 4, 2) := by decide +kernel
theorem dL_law_593 : decode cL_law 593 = .ok (.iconst 4, 1) := by decide +kernel
theorem dL_law_594 : decode cL_law 594 = .ok (.iadd, 1) := by decide +kernel
theorem dL_law_595 : decode cL_law 595 = .ok (.iaload, 1) := by decide +kernel
theorem dL_law_596 : decode cL_law 596 = .ok (.invokevirtual 110, 3) := by decide +kernel
theorem dL_law_599 : decode cL_law 599 = .ok (.istore 6, 2) := by decide +kernel
theorem dL_law_601 : decode cL_law 601 = .ok (.aload_n 2, 1) := by decide +kernel
theorem dL_law_602 : decode cL_law 602 = .ok (.invokevirtual 94, 3) := by decide +kernel
theorem dL_law_605 : decode cL_law 605 = .ok (.iload 5, 2) := by decide +kernel
theorem dL_law_607 : decode cL_law 607 = .ok (.if_icmp .eq 5, 3) := by decide +kernel
theorem dL_law_610 : decode cL_law 610 = .ok (.iconst 0, 1) := by decide +kernel
theorem dL_law_611 : decode cL_law 611 = .ok (.ireturn, 1) := by decide +kernel
theorem dL_law_612 : decode cL_law 612 = .ok (.iload 5, 2) := by decide +kernel
theorem dL_law_614 : decode cL_law 614 = .ok (.ifCond .ne 15, 3) := by decide +kernel
theorem dL_law_617 : decode cL_law 617 = .ok (.aload_n 3, 1) := by decide +kernel
theorem dL_law_618 : decode cL_law 618 = .ok (.iconst 0, 1) := by decide +kernel
theorem dL_law_619 : decode cL_law 619 = .ok (.laload, 1) := by decide +kernel
theorem dL_law_620 : decode cL_law 620 = .ok (.iload 6, 2) := by decide +kernel
theorem dL_law_622 : decode cL_law 622 = .ok (.i2l, 1) := by decide +kernel
theorem dL_law_623 : decode cL_law 623 = .ok (.lcmp, 1) := by decide +kernel
theorem dL_law_624 : decode cL_law 624 = .ok (.ifCond .eq 5, 3) := by decide +kernel
theorem dL_law_627 : decode cL_law 627 = .ok (.iconst 0, 1) := by decide +kernel
theorem dL_law_628 : decode cL_law 628 = .ok (.ireturn, 1) := by decide +kernel
theorem dL_law_629 : decode cL_law 629 = .ok (.goto 1152, 3) := by decide +kernel
theorem dL_law_632 : decode cL_law 632 = .ok (.aload_n 1, 1) := by decide +kernel
theorem dL_law_633 : decode cL_law 633 = .ok (.aload_n 0, 1) := by decide +kernel
theorem dL_law_634 : decode cL_law 634 = .ok (.iload 4, 2) := by decide +kernel
theorem dL_law_636 : decode cL_law 636 = .ok (.iconst 1, 1) := by decide +kernel
theorem dL_law_637 : decode cL_law 637 = .ok (.iadd, 1) := by decide +kernel
theorem dL_law_638 : decode cL_law 638 = .ok (.iaload, 1) := by decide +kernel
theorem dL_law_639 : decode cL_law 639 = .ok (.aload_n 0, 1) := by decide +kernel
theorem dL_law_640 : decode cL_law 640 = .ok (.iload 4, 2) := by decide +kernel
theorem dL_law_642 : decode cL_law 642 = .ok (.iconst 2, 1) := by decide +kernel
theorem dL_law_643 : decode cL_law 643 = .ok (.iadd, 1) := by decide +kernel
theorem dL_law_644 : decode cL_law 644 = .ok (.iaload, 1) := by decide +kernel
theorem dL_law_645 : decode cL_law 645 = .ok (.aload_n 0, 1) := by decide +kernel
theorem dL_law_646 : decode cL_law 646 = .ok (.iload 4, 2) := by decide +kernel
theorem dL_law_648 : decode cL_law 648 = .ok (.iconst 3, 1) := by decide +kernel
theorem dL_law_649 : decode cL_law 649 = .ok (.iadd, 1) := by decide +kernel
theorem dL_law_650 : decode cL_law 650 = .ok (.iaload, 1) := by decide +kernel
theorem dL_law_651 : decode cL_law 651 = .ok (.aload_n 0, 1) := by decide +kernel
theorem dL_law_652 : decode cL_law 652 = .ok (.iload 4, 2) := by decide +kernel
theorem dL_law_654 : decode cL_law 654 = .ok (.iconst 4, 1) := by decide +kernel
theorem dL_law_655 : decode cL_law 655 = .ok (.iadd, 1) := by decide +kernel
theorem dL_law_656 : decode cL_law 656 = .ok (.iaload, 1) := by decide +kernel
theorem dL_law_657 : decode cL_law 657 = .ok (.aload_n 3, 1) := by decide +kernel
theorem dL_law_658 : decode cL_law 658 = .ok (.invokestatic 111, 3) := by decide +kernel
theorem dL_law_661 : decode cL_law 661 = .ok (.istore 5, 2) := by decide +kernel
theorem dL_law_663 : decode cL_law 663 = .ok (.aload_n 2, 1) := by decide +kernel
theorem dL_law_664 : decode cL_law 664 = .ok (.aload_n 0, 1) := by decide +kernel
theorem dL_law_665 : decode cL_law 665 = .ok (.iload 4, 2) := by decide +kernel
theorem dL_law_667 : decode cL_law 667 = .ok (.iconst 1, 1) := by decide +kernel
theorem dL_law_668 : decode cL_law 668 = .ok (.iadd, 1) := by decide +kernel
theorem dL_law_669 : decode cL_law 669 = .ok (.iaload, 1) := by decide +kernel
theorem dL_law_670 : decode cL_law 670 = .ok (.aload_n 0, 1) := by decide +kernel
theorem dL_law_671 : decode cL_law 671 = .ok (.iload 4, 2) := by decide +kernel
theorem dL_law_673 : decode cL_law 673 = .ok (.iconst 2, 1) := by decide +kernel
theorem dL_law_674 : decode cL_law 674 = .ok (.iadd, 1) := by decide +kernel
theorem dL_law_675 : decode cL_law 675 = .ok (.iaload, 1) := by decide +kernel
theorem dL_law_676 : decode cL_law 676 = .ok (.aload_n 0, 1) := by decide +kernel
theorem dL_law_677 : decode cL_law 677 = .ok (.iload 4, 2) := by decide +kernel
theorem dL_law_679 : decode cL_law 679 = .ok (.iconst 3, 1) := by decide +kernel
theorem dL_law_680 : decode cL_law 680 = .ok (.iadd, 1) := by decide +kernel
theorem dL_law_681 : decode cL_law 681 = .ok (.iaload, 1) := by decide +kernel
theorem dL_law_682 : decode cL_law 682 = .ok (.aload_n 0, 1) := by decide +kernel
theorem dL_law_683 : decode cL_law 683 = .ok (.iload 4, 2) := by decide +kernel
theorem dL_law_685 : decode cL_law 685 = .ok (.iconst 4, 1) := by decide +kernel
theorem dL_law_686 : decode cL_law 686 = .ok (.iadd, 1) := by decide +kernel
theorem dL_law_687 : decode cL_law 687 = .ok (.iaload, 1) := by decide +kernel
theorem dL_law_688 : decode cL_law 688 = .ok (.invokevirtual 113, 3) := by decide +kernel
theorem dL_law_691 : decode cL_law 691 = .ok (.istore 6, 2) := by decide +kernel
theorem dL_law_693 : decode cL_law 693 = .ok (.aload_n 2, 1) := by decide +kernel
theorem dL_law_694 : decode cL_law 694 = .ok (.invokevirtual 94, 3) := by decide +kernel
theorem dL_law_697 : decode cL_law 697 = .ok (.iload 5, 2) := by decide +kernel
theorem dL_law_699 : decode cL_law 699 = .ok (.if_icmp .eq 5, 3) := by decide +kernel
theorem dL_law_702 : decode cL_law 702 = .ok (.iconst 0, 1) := by decide +kernel
theorem dL_law_703 : decode cL_law 703 = .ok (.ireturn, 1) := by decide +kernel
theorem dL_law_704 : decode cL_law 704 = .ok (.iload 5, 2) := by decide +kernel
theorem dL_law_706 : decode cL_law 706 = .ok (.ifCond .ne 15, 3) := by decide +kernel
theorem dL_law_709 : decode cL_law 709 = .ok (.aload_n 3, 1) := by decide +kernel
theorem dL_law_710 : decode cL_law 710 = .ok (.iconst 0, 1) := by decide +kernel
theorem dL_law_711 : decode cL_law 711 = .ok (.laload, 1) := by decide +kernel
theorem dL_law_712 : decode cL_law 712 = .ok (.iload 6, 2) := by decide +kernel
theorem dL_law_714 : decode cL_law 714 = .ok (.i2l, 1) := by decide +kernel
theorem dL_law_715 : decode cL_law 715 = .ok (.lcmp, 1) := by decide +kernel
theorem dL_law_716 : decode cL_law 716 = .ok (.ifCond .eq 5, 3) := by decide +kernel
theorem dL_law_719 : decode cL_law 719 = .ok (.iconst 0, 1) := by decide +kernel
theorem dL_law_720 : decode cL_law 720 = .ok (.ireturn, 1) := by decide +kernel
theorem dL_law_721 : decode cL_law 721 = .ok (.goto 1060, 3) := by decide +kernel
theorem dL_law_724 : decode cL_law 724 = .ok (.aload_n 1, 1) := by decide +kernel
theorem dL_law_725 : decode cL_law 725 = .ok (.aload_n 3, 1) := by decide +kernel
theorem dL_law_726 : decode cL_law 726 = .ok (.invokestatic 114, 3) := by decide +kernel
theorem dL_law_729 : decode cL_law 729 = .ok (.istore 5, 2) := by decide +kernel
theorem dL_law_731 : decode cL_law 731 = .ok (.aload_n 2, 1) := by decide +kernel
theorem dL_law_732 : decode cL_law 732 = .ok (.invokevirtual 117, 3) := by decide +kernel
theorem dL_law_735 : decode cL_law 735 = .ok (.istore 6, 2) := by decide +kernel
theorem dL_law_737 : decode cL_law 737 = .ok (.aload_n 2, 1) := by decide +kernel
theorem dL_law_738 : decode cL_law 738 = .ok (.invokevirtual 94, 3) := by decide +kernel
theorem dL_law_741 : decode cL_law 741 = .ok (.iload 5, 2) := by decide +kernel
theorem dL_law_743 : decode cL_law 743 = .ok (.if_icmp .eq 5, 3) := by decide +kernel
theorem dL_law_746 : decode cL_law 746 = .ok (.iconst 0, 1) := by decide +kernel
theorem dL_law_747 : decode cL_law 747 = .ok (.ireturn, 1) := by decide +kernel
theorem dL_law_748 : decode cL_law 748 = .ok (.iload 5, 2) := by decide +kernel
theorem dL_law_750 : decode cL_law 750 = .ok (.ifCond .ne 15, 3) := by decide +kernel
theorem dL_law_753 : decode cL_law 753 = .ok (.aload_n 3, 1) := by decide +kernel
theorem dL_law_754 : decode cL_law 754 = .ok (.iconst 0, 1) := by decide +kernel
theorem dL_law_755 : decode cL_law 755 = .ok (.laload, 1) := by decide +kernel
theorem dL_law_756 : decode cL_law 756 = .ok (.iload 6, 2) := by decide +kernel
theorem dL_law_758 : decode cL_law 758 = .ok (.i2l, 1) := by decide +kernel
theorem dL_law_759 : decode cL_law 759 = .ok (.lcmp, 1) := by decide +kernel
theorem dL_law_760 : decode cL_law 760 = .ok (.ifCond .eq 5, 3) := by decide +kernel
theorem dL_law_763 : decode cL_law 763 = .ok (.iconst 0, 1) := by decide +kernel
theorem dL_law_764 : decode cL_law 764 = .ok (.ireturn, 1) := by decide +kernel
theorem dL_law_765 : decode cL_law 765 = .ok (.goto 1016, 3) := by decide +kernel
theorem dL_law_768 : decode cL_law 768 = .ok (.aload_n 1, 1) := by decide +kernel
theorem dL_law_769 : decode cL_law 769 = .ok (.aload_n 3, 1) := by decide +kernel
theorem dL_law_770 : decode cL_law 770 = .ok (.invokestatic 118, 3) := by decide +kernel
theorem dL_law_773 : decode cL_law 773 = .ok (.istore 5, 2) := by decide +kernel
theorem dL_law_775 : decode cL_law 775 = .ok (.aload_n 2, 1) := by decide +kernel
theorem dL_law_776 : decode cL_law 776 = .ok (.invokevirtual 120, 3) := by decide +kernel
theorem dL_law_779 : decode cL_law 779 = .ok (.istore 6, 2) := by decide +kernel
theorem dL_law_781 : decode cL_law 781 = .ok (.aload_n 2, 1) := by decide +kernel
theorem dL_law_782 : decode cL_law 782 = .ok (.invokevirtual 94, 3) := by decide +kernel
theorem dL_law_785 : decode cL_law 785 = .ok (.iload 5, 2) := by decide +kernel
theorem dL_law_787 : decode cL_law 787 = .ok (.if_icmp .eq 5, 3) := by decide +kernel
theorem dL_law_790 : decode cL_law 790 = .ok (.iconst 0, 1) := by decide +kernel
theorem dL_law_791 : decode cL_law 791 = .ok (.ireturn, 1) := by decide +kernel
theorem dL_law_792 : decode cL_law 792 = .ok (.iload 5, 2) := by decide +kernel
theorem dL_law_794 : decode cL_law 794 = .ok (.ifCond .ne 15, 3) := by decide +kernel
theorem dL_law_797 : decode cL_law 797 = .ok (.aload_n 3, 1) := by decide +kernel
theorem dL_law_798 : decode cL_law 798 = .ok (.iconst 0, 1) := by decide +kernel
theorem dL_law_799 : decode cL_law 799 = .ok (.laload, 1) := by decide +kernel
theorem dL_law_800 : decode cL_law 800 = .ok (.iload 6, 2) := by decide +kernel
theorem dL_law_802 : decode cL_law 802 = .ok (.i2l, 1) := by decide +kernel
theorem dL_law_803 : decode cL_law 803 = .ok (.lcmp, 1) := by decide +kernel
theorem dL_law_804 : decode cL_law 804 = .ok (.ifCond .eq 5, 3) := by decide +kernel
theorem dL_law_807 : decode cL_law 807 = .ok (.iconst 0, 1) := by decide +kernel
theorem dL_law_808 : decode cL_law 808 = .ok (.ireturn, 1) := by decide +kernel
theorem dL_law_809 : decode cL_law 809 = .ok (.goto 972, 3) := by decide +kernel
theorem dL_law_812 : decode cL_law 812 = .ok (.aload_n 1, 1) := by decide +kernel
theorem dL_law_813 : decode cL_law 813 = .ok (.aload_n 0, 1) := by decide +kernel
theorem dL_law_814 : decode cL_law 814 = .ok (.iload 4, 2) := by decide +kernel
theorem dL_law_816 : decode cL_law 816 = .ok (.iconst 1, 1) := by decide +kernel
theorem dL_law_817 : decode cL_law 817 = .ok (.iadd, 1) := by decide +kernel
theorem dL_law_818 : decode cL_law 818 = .ok (.iaload, 1) := by decide +kernel
theorem dL_law_819 : decode cL_law 819 = .ok (.aload_n 3, 1) := by decide +kernel
theorem dL_law_820 : decode cL_law 820 = .ok (.invokestatic 121, 3) := by decide +kernel
theorem dL_law_823 : decode cL_law 823 = .ok (.istore 5, 2) := by decide +kernel
theorem dL_law_825 : decode cL_law 825 = .ok (.aload_n 2, 1) := by decide +kernel
theorem dL_law_826 : decode cL_law 826 = .ok (.aload_n 0, 1) := by decide +kernel
theorem dL_law_827 : decode cL_law 827 = .ok (.iload 4, 2) := by decide +kernel
theorem dL_law_829 : decode cL_law 829 = .ok (.iconst 1, 1) := by decide +kernel
theorem dL_law_830 : decode cL_law 830 = .ok (.iadd, 1) := by decide +kernel
theorem dL_law_831 : decode cL_law 831 = .ok (.iaload, 1) := by decide +kernel
theorem dL_law_832 : decode cL_law 832 = .ok (.invokevirtual 124, 3) := by decide +kernel
theorem dL_law_835 : decode cL_law 835 = .ok (.istore 6, 2) := by decide +kernel
theorem dL_law_837 : decode cL_law 837 = .ok (.aload_n 2, 1) := by decide +kernel
theorem dL_law_838 : decode cL_law 838 = .ok (.invokevirtual 94, 3) := by decide +kernel
theorem dL_law_841 : decode cL_law 841 = .ok (.iload 5, 2) := by decide +kernel
theorem dL_law_843 : decode cL_law 843 = .ok (.if_icmp .eq 5, 3) := by decide +kernel
theorem dL_law_846 : decode cL_law 846 = .ok (.iconst 0, 1) := by decide +kernel
theorem dL_law_847 : decode cL_law 847 = .ok (.ireturn, 1) := by decide +kernel
theorem dL_law_848 : decode cL_law 848 = .ok (.iload 5, 2) := by decide +kernel
theorem dL_law_850 : decode cL_law 850 = .ok (.ifCond .ne 15, 3) := by decide +kernel
theorem dL_law_853 : decode cL_law 853 = .ok (.aload_n 3, 1) := by decide +kernel
theorem dL_law_854 : decode cL_law 854 = .ok (.iconst 0, 1) := by decide +kernel
theorem dL_law_855 : decode cL_law 855 = .ok (.laload, 1) := by decide +kernel
theorem dL_law_856 : decode cL_law 856 = .ok (.iload 6, 2) := by decide +kernel
theorem dL_law_858 : decode cL_law 858 = .ok (.i2l, 1) := by decide +kernel
theorem dL_law_859 : decode cL_law 859 = .ok (.lcmp, 1) := by decide +kernel
theorem dL_law_860 : decode cL_law 860 = .ok (.ifCond .eq 5, 3) := by decide +kernel
theorem dL_law_863 : decode cL_law 863 = .ok (.iconst 0, 1) := by decide +kernel
theorem dL_law_864 : decode cL_law 864 = .ok (.ireturn, 1) := by decide +kernel
theorem dL_law_865 : decode cL_law 865 = .ok (.goto 916, 3) := by decide +kernel
theorem dL_law_868 : decode cL_law 868 = .ok (.aload_n 1, 1) := by decide +kernel
theorem dL_law_869 : decode cL_law 869 = .ok (.aload_n 0, 1) := by decide +kernel
theorem dL_law_870 : decode cL_law 870 = .ok (.iload 4, 2) := by decide +kernel
theorem dL_law_872 : decode cL_law 872 = .ok (.iconst 1, 1) := by decide +kernel
theorem dL_law_873 : decode cL_law 873 = .ok (.iadd, 1) := by decide +kernel
theorem dL_law_874 : decode cL_law 874 = .ok (.iaload, 1) := by decide +kernel
theorem dL_law_875 : decode cL_law 875 = .ok (.aload_n 3, 1) := by decide +kernel
theorem dL_law_876 : decode cL_law 876 = .ok (.invokestatic 125, 3) := by decide +kernel
theorem dL_law_879 : decode cL_law 879 = .ok (.istore 5, 2) := by decide +kernel
theorem dL_law_881 : decode cL_law 881 = .ok (.aload_n 2, 1) := by decide +kernel
theorem dL_law_882 : decode cL_law 882 = .ok (.aload_n 0, 1) := by decide +kernel
theorem dL_law_883 : decode cL_law 883 = .ok (.iload 4, 2) := by decide +kernel
theorem dL_law_885 : decode cL_law 885 = .ok (.iconst 1, 1) := by decide +kernel
theorem dL_law_886 : decode cL_law 886 = .ok (.iadd, 1) := by decide +kernel
theorem dL_law_887 : decode cL_law 887 = .ok (.iaload, 1) := by decide +kernel
theorem dL_law_888 : decode cL_law 888 = .ok (.invokevirtual 127, 3) := by decide +kernel
theorem dL_law_891 : decode cL_law 891 = .ok (.istore 6, 2) := by decide +kernel
theorem dL_law_893 : decode cL_law 893 = .ok (.aload_n 2, 1) := by decide +kernel
theorem dL_law_894 : decode cL_law 894 = .ok (.invokevirtual 94, 3) := by decide +kernel
theorem dL_law_897 : decode cL_law 897 = .ok (.iload 5, 2) := by decide +kernel
theorem dL_law_899 : decode cL_law 899 = .ok (.if_icmp .eq 5, 3) := by decide +kernel
theorem dL_law_902 : decode cL_law 902 = .ok (.iconst 0, 1) := by decide +kernel
theorem dL_law_903 : decode cL_law 903 = .ok (.ireturn, 1) := by decide +kernel
theorem dL_law_904 : decode cL_law 904 = .ok (.iload 5, 2) := by decide +kernel
theorem dL_law_906 : decode cL_law 906 = .ok (.ifCond .ne 15, 3) := by decide +kernel
theorem dL_law_909 : decode cL_law 909 = .ok (.aload_n 3, 1) := by decide +kernel
theorem dL_law_910 : decode cL_law 910 = .ok (.iconst 0, 1) := by decide +kernel
theorem dL_law_911 : decode cL_law 911 = .ok (.laload, 1) := by decide +kernel
theorem dL_law_912 : decode cL_law 912 = .ok (.iload 6, 2) := by decide +kernel
theorem dL_law_914 : decode cL_law 914 = .ok (.i2l, 1) := by decide +kernel
theorem dL_law_915 : decode cL_law 915 = .ok (.lcmp, 1) := by decide +kernel
theorem dL_law_916 : decode cL_law 916 = .ok (.ifCond .eq 5, 3) := by decide +kernel
theorem dL_law_919 : decode cL_law 919 = .ok (.iconst 0, 1) := by decide +kernel
theorem dL_law_920 : decode cL_law 920 = .ok (.ireturn, 1) := by decide +kernel
theorem dL_law_921 : decode cL_law 921 = .ok (.goto 860, 3) := by decide +kernel
theorem dL_law_924 : decode cL_law 924 = .ok (.aload_n 1, 1) := by decide +kernel
theorem dL_law_925 : decode cL_law 925 = .ok (.invokevirtual 128, 3) := by decide +kernel
theorem dL_law_928 : decode cL_law 928 = .ok (.aload_n 2, 1) := by decide +kernel
theorem dL_law_929 : decode cL_law 929 = .ok (.invokevirtual 131, 3) := by decide +kernel
theorem dL_law_932 : decode cL_law 932 = .ok (.if_icmp .eq 849, 3) := by decide +kernel
theorem dL_law_935 : decode cL_law 935 = .ok (.iconst 0, 1) := by decide +kernel
theorem dL_law_936 : decode cL_law 936 = .ok (.ireturn, 1) := by decide +kernel
theorem dL_law_937 : decode cL_law 937 = .ok (.aload_n 1, 1) := by decide +kernel
theorem dL_law_938 : decode cL_law 938 = .ok (.invokevirtual 132, 3) := by decide +kernel
theorem dL_law_941 : decode cL_law 941 = .ok (.aload_n 2, 1) := by decide +kernel
theorem dL_law_942 : decode cL_law 942 = .ok (.invokevirtual 135, 3) := by decide +kernel
theorem dL_law_945 : decode cL_law 945 = .ok (.if_icmp .eq 836, 3) := by decide +kernel
theorem dL_law_948 : decode cL_law 948 = .ok (.iconst 0, 1) := by decide +kernel
theorem dL_law_949 : decode cL_law 949 = .ok (.ireturn, 1) := by decide +kernel
theorem dL_law_950 : decode cL_law 950 = .ok (.aload_n 1, 1) := by decide +kernel
theorem dL_law_951 : decode cL_law 951 = .ok (.aload_n 0, 1) := by decide +kernel
theorem dL_law_952 : decode cL_law 952 = .ok (.iload 4, 2) := by decide +kernel
theorem dL_law_954 : decode cL_law 954 = .ok (.iconst 1, 1) := by decide +kernel
theorem dL_law_955 : decode cL_law 955 = .ok (.iadd, 1) := by decide +kernel
theorem dL_law_956 : decode cL_law 956 = .ok (.iaload, 1) := by decide +kernel
theorem dL_law_957 : decode cL_law 957 = .ok (.aload_n 0, 1) := by decide +kernel
theorem dL_law_958 : decode cL_law 958 = .ok (.iload 4, 2) := by decide +kernel
theorem dL_law_960 : decode cL_law 960 = .ok (.iconst 2, 1) := by decide +kernel
theorem dL_law_961 : decode cL_law 961 = .ok (.iadd, 1) := by decide +kernel
theorem dL_law_962 : decode cL_law 962 = .ok (.iaload, 1) := by decide +kernel
theorem dL_law_963 : decode cL_law 963 = .ok (.aload_n 3, 1) := by decide +kernel
theorem dL_law_964 : decode cL_law 964 = .ok (.invokestatic 136, 3) := by decide +kernel
theorem dL_law_967 : decode cL_law 967 = .ok (.istore 5, 2) := by decide +kernel
theorem dL_law_969 : decode cL_law 969 = .ok (.aload_n 2, 1) := by decide +kernel
theorem dL_law_970 : decode cL_law 970 = .ok (.aload_n 0, 1) := by decide +kernel
theorem dL_law_971 : decode cL_law 971 = .ok (.iload 4, 2) := by decide +kernel
theorem dL_law_973 : decode cL_law 973 = .ok (.iconst 1, 1) := by decide +kernel
theorem dL_law_974 : decode cL_law 974 = .ok (.iadd, 1) := by decide +kernel
theorem dL_law_975 : decode cL_law 975 = .ok (.iaload, 1) := by decide +kernel
theorem dL_law_976 : decode cL_law 976 = .ok (.aload_n 0, 1) := by decide +kernel
theorem dL_law_977 : decode cL_law 977 = .ok (.iload 4, 2) := by decide +kernel
theorem dL_law_979 : decode cL_law 979 = .ok (.iconst 2, 1) := by decide +kernel
theorem dL_law_980 : decode cL_law 980 = .ok (.iadd, 1) := by decide +kernel
theorem dL_law_981 : decode cL_law 981 = .ok (.iaload, 1) := by decide +kernel
theorem dL_law_982 : decode cL_law 982 = .ok (.invokevirtual 138, 3) := by decide +kernel
theorem dL_law_985 : decode cL_law 985 = .ok (.istore 6, 2) := by decide +kernel
theorem dL_law_987 : decode cL_law 987 = .ok (.aload_n 2, 1) := by decide +kernel
theorem dL_law_988 : decode cL_law 988 = .ok (.invokevirtual 94, 3) := by decide +kernel
theorem dL_law_991 : decode cL_law 991 = .ok (.iload 5, 2) := by decide +kernel
theorem dL_law_993 : decode cL_law 993 = .ok (.if_icmp .eq 5, 3) := by decide +kernel
theorem dL_law_996 : decode cL_law 996 = .ok (.iconst 0, 1) := by decide +kernel
theorem dL_law_997 : decode cL_law 997 = .ok (.ireturn, 1) := by decide +kernel
theorem dL_law_998 : decode cL_law 998 = .ok (.iload 5, 2) := by decide +kernel
theorem dL_law_1000 : decode cL_law 1000 = .ok (.ifCond .ne 15, 3) := by decide +kernel
theorem dL_law_1003 : decode cL_law 1003 = .ok (.aload_n 3, 1) := by decide +kernel
theorem dL_law_1004 : decode cL_law 1004 = .ok (.iconst 0, 1) := by decide +kernel
theorem dL_law_1005 : decode cL_law 1005 = .ok (.laload, 1) := by decide +kernel
theorem dL_law_1006 : decode cL_law 1006 = .ok (.iload 6, 2) := by decide +kernel
theorem dL_law_1008 : decode cL_law 1008 = .ok (.i2l, 1) := by decide +kernel
theorem dL_law_1009 : decode cL_law 1009 = .ok (.lcmp, 1) := by decide +kernel
theorem dL_law_1010 : decode cL_law 1010 = .ok (.ifCond .eq 5, 3) := by decide +kernel
theorem dL_law_1013 : decode cL_law 1013 = .ok (.iconst 0, 1) := by decide +kernel
theorem dL_law_1014 : decode cL_law 1014 = .ok (.ireturn, 1) := by decide +kernel
theorem dL_law_1015 : decode cL_law 1015 = .ok (.goto 766, 3) := by decide +kernel
theorem dL_law_1018 : decode cL_law 1018 = .ok (.aload_n 1, 1) := by decide +kernel
theorem dL_law_1019 : decode cL_law 1019 = .ok (.invokevirtual 139, 3) := by decide +kernel
theorem dL_law_1022 : decode cL_law 1022 = .ok (.aload_n 2, 1) := by decide +kernel
theorem dL_law_1023 : decode cL_law 1023 = .ok (.invokevirtual 143, 3) := by decide +kernel
theorem dL_law_1026 : decode cL_law 1026 = .ok (.if_icmp .eq 755, 3) := by decide +kernel
theorem dL_law_1029 : decode cL_law 1029 = .ok (.iconst 0, 1) := by decide +kernel
theorem dL_law_1030 : decode cL_law 1030 = .ok (.ireturn, 1) := by decide +kernel
theorem dL_law_1031 : decode cL_law 1031 = .ok (.aload_n 1, 1) := by decide +kernel
theorem dL_law_1032 : decode cL_law 1032 = .ok (.invokevirtual 144, 3) := by decide +kernel
theorem dL_law_1035 : decode cL_law 1035 = .ok (.aload_n 2, 1) := by decide +kernel
theorem dL_law_1036 : decode cL_law 1036 = .ok (.invokevirtual 147, 3) := by decide +kernel
theorem dL_law_1039 : decode cL_law 1039 = .ok (.if_icmp .eq 742, 3) := by decide +kernel
theorem dL_law_1042 : decode cL_law 1042 = .ok (.iconst 0, 1) := by decide +kernel
theorem dL_law_1043 : decode cL_law 1043 = .ok (.ireturn, 1) := by decide +kernel
theorem dL_law_1044 : decode cL_law 1044 = .ok (.aload_n 1, 1) := by decide +kernel
theorem dL_law_1045 : decode cL_law 1045 = .ok (.invokevirtual 148, 3) := by decide +kernel
theorem dL_law_1048 : decode cL_law 1048 = .ok (.aload_n 2, 1) := by decide +kernel
theorem dL_law_1049 : decode cL_law 1049 = .ok (.invokevirtual 151, 3) := by decide +kernel
theorem dL_law_1052 : decode cL_law 1052 = .ok (.if_icmp .eq 729, 3) := by decide +kernel
theorem dL_law_1055 : decode cL_law 1055 = .ok (.iconst 0, 1) := by decide +kernel
theorem dL_law_1056 : decode cL_law 1056 = .ok (.ireturn, 1) := by decide +kernel
theorem dL_law_1057 : decode cL_law 1057 = .ok (.aload_n 1, 1) := by decide +kernel
theorem dL_law_1058 : decode cL_law 1058 = .ok (.aload_n 0, 1) := by decide +kernel
theorem dL_law_1059 : decode cL_law 1059 = .ok (.iload 4, 2) := by decide +kernel
theorem dL_law_1061 : decode cL_law 1061 = .ok (.iconst 1, 1) := by decide +kernel
theorem dL_law_1062 : decode cL_law 1062 = .ok (.iadd, 1) := by decide +kernel
theorem dL_law_1063 : decode cL_law 1063 = .ok (.iaload, 1) := by decide +kernel
theorem dL_law_1064 : decode cL_law 1064 = .ok (.aload_n 3, 1) := by decide +kernel
theorem dL_law_1065 : decode cL_law 1065 = .ok (.invokestatic 152, 3) := by decide +kernel
theorem dL_law_1068 : decode cL_law 1068 = .ok (.istore 5, 2) := by decide +kernel
theorem dL_law_1070 : decode cL_law 1070 = .ok (.aload_n 2, 1) := by decide +kernel
theorem dL_law_1071 : decode cL_law 1071 = .ok (.aload_n 0, 1) := by decide +kernel
theorem dL_law_1072 : decode cL_law 1072 = .ok (.iload 4, 2) := by decide +kernel
theorem dL_law_1074 : decode cL_law 1074 = .ok (.iconst 1, 1) := by decide +kernel
theorem dL_law_1075 : decode cL_law 1075 = .ok (.iadd, 1) := by decide +kernel
theorem dL_law_1076 : decode cL_law 1076 = .ok (.iaload, 1) := by decide +kernel
theorem dL_law_1077 : decode cL_law 1077 = .ok (.invokevirtual 154, 3) := by decide +kernel
theorem dL_law_1080 : decode cL_law 1080 = .ok (.istore 6, 2) := by decide +kernel
theorem dL_law_1082 : decode cL_law 1082 = .ok (.aload_n 2, 1) := by decide +kernel
theorem dL_law_1083 : decode cL_law 1083 = .ok (.invokevirtual 94, 3) := by decide +kernel
theorem dL_law_1086 : decode cL_law 1086 = .ok (.iload 5, 2) := by decide +kernel
theorem dL_law_1088 : decode cL_law 1088 = .ok (.if_icmp .eq 5, 3) := by decide +kernel
theorem dL_law_1091 : decode cL_law 1091 = .ok (.iconst 0, 1) := by decide +kernel
theorem dL_law_1092 : decode cL_law 1092 = .ok (.ireturn, 1) := by decide +kernel
theorem dL_law_1093 : decode cL_law 1093 = .ok (.iload 5, 2) := by decide +kernel
theorem dL_law_1095 : decode cL_law 1095 = .ok (.ifCond .ne 22, 3) := by decide +kernel
theorem dL_law_1098 : decode cL_law 1098 = .ok (.aload_n 3, 1) := by decide +kernel
theorem dL_law_1099 : decode cL_law 1099 = .ok (.iconst 0, 1) := by decide +kernel
theorem dL_law_1100 : decode cL_law 1100 = .ok (.laload, 1) := by decide +kernel
theorem dL_law_1101 : decode cL_law 1101 = .ok (.iload 6, 2) := by decide +kernel
theorem dL_law_1103 : decode cL_law 1103 = .ok (.ifCond .eq 7, 3) := by decide +kernel
theorem dL_law_1106 : decode cL_law 1106 = .ok (.lconst 1, 1) := by decide +kernel
theorem dL_law_1107 : decode cL_law 1107 = .ok (.goto 4, 3) := by decide +kernel
theorem dL_law_1110 : decode cL_law 1110 = .ok (.lconst 0, 1) := by decide +kernel
theorem dL_law_1111 : decode cL_law 1111 = .ok (.lcmp, 1) := by decide +kernel
theorem dL_law_1112 : decode cL_law 1112 = .ok (.ifCond .eq 5, 3) := by decide +kernel
theorem dL_law_1115 : decode cL_law 1115 = .ok (.iconst 0, 1) := by decide +kernel
theorem dL_law_1116 : decode cL_law 1116 = .ok (.ireturn, 1) := by decide +kernel
theorem dL_law_1117 : decode cL_law 1117 = .ok (.goto 664, 3) := by decide +kernel
theorem dL_law_1120 : decode cL_law 1120 = .ok (.aload_n 1, 1) := by decide +kernel
theorem dL_law_1121 : decode cL_law 1121 = .ok (.aload_n 0, 1) := by decide +kernel
theorem dL_law_1122 : decode cL_law 1122 = .ok (.iload 4, 2) := by decide +kernel
theorem dL_law_1124 : decode cL_law 1124 = .ok (.iconst 1, 1) := by decide +kernel
theorem dL_law_1125 : decode cL_law 1125 = .ok (.iadd, 1) := by decide +kernel
theorem dL_law_1126 : decode cL_law 1126 = .ok (.iaload, 1) := by decide +kernel
theorem dL_law_1127 : decode cL_law 1127 = .ok (.aload_n 3, 1) := by decide +kernel
theorem dL_law_1128 : decode cL_law 1128 = .ok (.invokestatic 155, 3) := by decide +kernel
theorem dL_law_1131 : decode cL_law 1131 = .ok (.istore 5, 2) := by decide +kernel
theorem dL_law_1133 : decode cL_law 1133 = .ok (.aload_n 2, 1) := by decide +kernel
theorem dL_law_1134 : decode cL_law 1134 = .ok (.aload_n 0, 1) := by decide +kernel
theorem dL_law_1135 : decode cL_law 1135 = .ok (.iload 4, 2) := by decide +kernel
theorem dL_law_1137 : decode cL_law 1137 = .ok (.iconst 1, 1) := by decide +kernel
theorem dL_law_1138 : decode cL_law 1138 = .ok (.iadd, 1) := by decide +kernel
theorem dL_law_1139 : decode cL_law 1139 = .ok (.iaload, 1) := by decide +kernel
theorem dL_law_1140 : decode cL_law 1140 = .ok (.invokevirtual 157, 3) := by decide +kernel
theorem dL_law_1143 : decode cL_law 1143 = .ok (.istore 6, 2) := by decide +kernel
theorem dL_law_1145 : decode cL_law 1145 = .ok (.aload_n 2, 1) := by decide +kernel
theorem dL_law_1146 : decode cL_law 1146 = .ok (.invokevirtual 94, 3) := by decide +kernel
theorem dL_law_1149 : decode cL_law 1149 = .ok (.iload 5, 2) := by decide +kernel
theorem dL_law_1151 : decode cL_law 1151 = .ok (.if_icmp .eq 5, 3) := by decide +kernel
theorem dL_law_1154 : decode cL_law 1154 = .ok (.iconst 0, 1) := by decide +kernel
theorem dL_law_1155 : decode cL_law 1155 = .ok (.ireturn, 1) := by decide +kernel
theorem dL_law_1156 : decode cL_law 1156 = .ok (.iload 5, 2) := by decide +kernel
theorem dL_law_1158 : decode cL_law 1158 = .ok (.ifCond .ne 15, 3) := by decide +kernel
theorem dL_law_1161 : decode cL_law 1161 = .ok (.aload_n 3, 1) := by decide +kernel
theorem dL_law_1162 : decode cL_law 1162 = .ok (.iconst 0, 1) := by decide +kernel
theorem dL_law_1163 : decode cL_law 1163 = .ok (.laload, 1) := by decide +kernel
theorem dL_law_1164 : decode cL_law 1164 = .ok (.iload 6, 2) := by decide +kernel
theorem dL_law_1166 : decode cL_law 1166 = .ok (.i2l, 1) := by decide +kernel
theorem dL_law_1167 : decode cL_law 1167 = .ok (.lcmp, 1) := by decide +kernel
theorem dL_law_1168 : decode cL_law 1168 = .ok (.ifCond .eq 5, 3) := by decide +kernel
theorem dL_law_1171 : decode cL_law 1171 = .ok (.iconst 0, 1) := by decide +kernel
theorem dL_law_1172 : decode cL_law 1172 = .ok (.ireturn, 1) := by decide +kernel
theorem dL_law_1173 : decode cL_law 1173 = .ok (.goto 608, 3) := by decide +kernel
theorem dL_law_1176 : decode cL_law 1176 = .ok (.aload_n 1, 1) := by decide +kernel
theorem dL_law_1177 : decode cL_law 1177 = .ok (.aload_n 0, 1) := by decide +kernel
theorem dL_law_1178 : decode cL_law 1178 = .ok (.iload 4, 2) := by decide +kernel
theorem dL_law_1180 : decode cL_law 1180 = .ok (.iconst 1, 1) := by decide +kernel
theorem dL_law_1181 : decode cL_law 1181 = .ok (.iadd, 1) := by decide +kernel
theorem dL_law_1182 : decode cL_law 1182 = .ok (.iaload, 1) := by decide +kernel
theorem dL_law_1183 : decode cL_law 1183 = .ok (.aload_n 3, 1) := by decide +kernel
theorem dL_law_1184 : decode cL_law 1184 = .ok (.invokestatic 158, 3) := by decide +kernel
theorem dL_law_1187 : decode cL_law 1187 = .ok (.istore 5, 2) := by decide +kernel
theorem dL_law_1189 : decode cL_law 1189 = .ok (.aload_n 2, 1) := by decide +kernel
theorem dL_law_1190 : decode cL_law 1190 = .ok (.aload_n 0, 1) := by decide +kernel
theorem dL_law_1191 : decode cL_law 1191 = .ok (.iload 4, 2) := by decide +kernel
theorem dL_law_1193 : decode cL_law 1193 = .ok (.iconst 1, 1) := by decide +kernel
theorem dL_law_1194 : decode cL_law 1194 = .ok (.iadd, 1) := by decide +kernel
theorem dL_law_1195 : decode cL_law 1195 = .ok (.iaload, 1) := by decide +kernel
theorem dL_law_1196 : decode cL_law 1196 = .ok (.invokevirtual 160, 3) := by decide +kernel
theorem dL_law_1199 : decode cL_law 1199 = .ok (.istore 6, 2) := by decide +kernel
theorem dL_law_1201 : decode cL_law 1201 = .ok (.aload_n 2, 1) := by decide +kernel
theorem dL_law_1202 : decode cL_law 1202 = .ok (.invokevirtual 94, 3) := by decide +kernel
theorem dL_law_1205 : decode cL_law 1205 = .ok (.iload 5, 2) := by decide +kernel
theorem dL_law_1207 : decode cL_law 1207 = .ok (.if_icmp .eq 5, 3) := by decide +kernel
theorem dL_law_1210 : decode cL_law 1210 = .ok (.iconst 0, 1) := by decide +kernel
theorem dL_law_1211 : decode cL_law 1211 = .ok (.ireturn, 1) := by decide +kernel
theorem dL_law_1212 : decode cL_law 1212 = .ok (.iload 5, 2) := by decide +kernel
theorem dL_law_1214 : decode cL_law 1214 = .ok (.ifCond .ne 15, 3) := by decide +kernel
theorem dL_law_1217 : decode cL_law 1217 = .ok (.aload_n 3, 1) := by decide +kernel
theorem dL_law_1218 : decode cL_law 1218 = .ok (.iconst 0, 1) := by decide +kernel
theorem dL_law_1219 : decode cL_law 1219 = .ok (.laload, 1) := by decide +kernel
theorem dL_law_1220 : decode cL_law 1220 = .ok (.iload 6, 2) := by decide +kernel
theorem dL_law_1222 : decode cL_law 1222 = .ok (.i2l, 1) := by decide +kernel
theorem dL_law_1223 : decode cL_law 1223 = .ok (.lcmp, 1) := by decide +kernel
theorem dL_law_1224 : decode cL_law 1224 = .ok (.ifCond .eq 5, 3) := by decide +kernel
theorem dL_law_1227 : decode cL_law 1227 = .ok (.iconst 0, 1) := by decide +kernel
theorem dL_law_1228 : decode cL_law 1228 = .ok (.ireturn, 1) := by decide +kernel
theorem dL_law_1229 : decode cL_law 1229 = .ok (.goto 552, 3) := by decide +kernel
theorem dL_law_1232 : decode cL_law 1232 = .ok (.aload_n 1, 1) := by decide +kernel
theorem dL_law_1233 : decode cL_law 1233 = .ok (.aload_n 0, 1) := by decide +kernel
theorem dL_law_1234 : decode cL_law 1234 = .ok (.iload 4, 2) := by decide +kernel
theorem dL_law_1236 : decode cL_law 1236 = .ok (.iconst 1, 1) := by decide +kernel
theorem dL_law_1237 : decode cL_law 1237 = .ok (.iadd, 1) := by decide +kernel
theorem dL_law_1238 : decode cL_law 1238 = .ok (.iaload, 1) := by decide +kernel
theorem dL_law_1239 : decode cL_law 1239 = .ok (.aload_n 3, 1) := by decide +kernel
theorem dL_law_1240 : decode cL_law 1240 = .ok (.invokestatic 161, 3) := by decide +kernel
theorem dL_law_1243 : decode cL_law 1243 = .ok (.istore 5, 2) := by decide +kernel
theorem dL_law_1245 : decode cL_law 1245 = .ok (.aload_n 2, 1) := by decide +kernel
theorem dL_law_1246 : decode cL_law 1246 = .ok (.aload_n 0, 1) := by decide +kernel
theorem dL_law_1247 : decode cL_law 1247 = .ok (.iload 4, 2) := by decide +kernel
theorem dL_law_1249 : decode cL_law 1249 = .ok (.iconst 1, 1) := by decide +kernel
theorem dL_law_1250 : decode cL_law 1250 = .ok (.iadd, 1) := by decide +kernel
theorem dL_law_1251 : decode cL_law 1251 = .ok (.iaload, 1) := by decide +kernel
theorem dL_law_1252 : decode cL_law 1252 = .ok (.invokevirtual 163, 3) := by decide +kernel
theorem dL_law_1255 : decode cL_law 1255 = .ok (.istore 6, 2) := by decide +kernel
theorem dL_law_1257 : decode cL_law 1257 = .ok (.aload_n 2, 1) := by decide +kernel
theorem dL_law_1258 : decode cL_law 1258 = .ok (.invokevirtual 94, 3) := by decide +kernel
theorem dL_law_1261 : decode cL_law 1261 = .ok (.iload 5, 2) := by decide +kernel
theorem dL_law_1263 : decode cL_law 1263 = .ok (.if_icmp .eq 5, 3) := by decide +kernel
theorem dL_law_1266 : decode cL_law 1266 = .ok (.iconst 0, 1) := by decide +kernel
theorem dL_law_1267 : decode cL_law 1267 = .ok (.ireturn, 1) := by decide +kernel
theorem dL_law_1268 : decode cL_law 1268 = .ok (.iload 5, 2) := by decide +kernel
theorem dL_law_1270 : decode cL_law 1270 = .ok (.ifCond .ne 15, 3) := by decide +kernel
theorem dL_law_1273 : decode cL_law 1273 = .ok (.aload_n 3, 1) := by decide +kernel
theorem dL_law_1274 : decode cL_law 1274 = .ok (.iconst 0, 1) := by decide +kernel
theorem dL_law_1275 : decode cL_law 1275 = .ok (.laload, 1) := by decide +kernel
theorem dL_law_1276 : decode cL_law 1276 = .ok (.iload 6, 2) := by decide +kernel
theorem dL_law_1278 : decode cL_law 1278 = .ok (.i2l, 1) := by decide +kernel
theorem dL_law_1279 : decode cL_law 1279 = .ok (.lcmp, 1) := by decide +kernel
theorem dL_law_1280 : decode cL_law 1280 = .ok (.ifCond .eq 5, 3) := by decide +kernel
theorem dL_law_1283 : decode cL_law 1283 = .ok (.iconst 0, 1) := by decide +kernel
theorem dL_law_1284 : decode cL_law 1284 = .ok (.ireturn, 1) := by decide +kernel
theorem dL_law_1285 : decode cL_law 1285 = .ok (.goto 496, 3) := by decide +kernel
theorem dL_law_1288 : decode cL_law 1288 = .ok (.aload_n 1, 1) := by decide +kernel
theorem dL_law_1289 : decode cL_law 1289 = .ok (.invokevirtual 164, 3) := by decide +kernel
theorem dL_law_1292 : decode cL_law 1292 = .ok (.aload_n 2, 1) := by decide +kernel
theorem dL_law_1293 : decode cL_law 1293 = .ok (.invokevirtual 167, 3) := by decide +kernel
theorem dL_law_1296 : decode cL_law 1296 = .ok (.if_icmp .eq 485, 3) := by decide +kernel
theorem dL_law_1299 : decode cL_law 1299 = .ok (.iconst 0, 1) := by decide +kernel
theorem dL_law_1300 : decode cL_law 1300 = .ok (.ireturn, 1) := by decide +kernel
theorem dL_law_1301 : decode cL_law 1301 = .ok (.aload_n 1, 1) := by decide +kernel
theorem dL_law_1302 : decode cL_law 1302 = .ok (.aload_n 0, 1) := by decide +kernel
theorem dL_law_1303 : decode cL_law 1303 = .ok (.iload 4, 2) := by decide +kernel
theorem dL_law_1305 : decode cL_law 1305 = .ok (.iconst 1, 1) := by decide +kernel
theorem dL_law_1306 : decode cL_law 1306 = .ok (.iadd, 1) := by decide +kernel
theorem dL_law_1307 : decode cL_law 1307 = .ok (.iaload, 1) := by decide +kernel
theorem dL_law_1308 : decode cL_law 1308 = .ok (.aload_n 3, 1) := by decide +kernel
theorem dL_law_1309 : decode cL_law 1309 = .ok (.invokestatic 168, 3) := by decide +kernel
theorem dL_law_1312 : decode cL_law 1312 = .ok (.istore 5, 2) := by decide +kernel
theorem dL_law_1314 : decode cL_law 1314 = .ok (.aload_n 2, 1) := by decide +kernel
theorem dL_law_1315 : decode cL_law 1315 = .ok (.aload_n 0, 1) := by decide +kernel
theorem dL_law_1316 : decode cL_law 1316 = .ok (.iload 4, 2) := by decide +kernel
theorem dL_law_1318 : decode cL_law 1318 = .ok (.iconst 1, 1) := by decide +kernel
theorem dL_law_1319 : decode cL_law 1319 = .ok (.iadd, 1) := by decide +kernel
theorem dL_law_1320 : decode cL_law 1320 = .ok (.iaload, 1) := by decide +kernel
theorem dL_law_1321 : decode cL_law 1321 = .ok (.invokevirtual 170, 3) := by decide +kernel
theorem dL_law_1324 : decode cL_law 1324 = .ok (.istore 6, 2) := by decide +kernel
theorem dL_law_1326 : decode cL_law 1326 = .ok (.aload_n 2, 1) := by decide +kernel
theorem dL_law_1327 : decode cL_law 1327 = .ok (.invokevirtual 94, 3) := by decide +kernel
theorem dL_law_1330 : decode cL_law 1330 = .ok (.iload 5, 2) := by decide +kernel
theorem dL_law_1332 : decode cL_law 1332 = .ok (.if_icmp .eq 5, 3) := by decide +kernel
theorem dL_law_1335 : decode cL_law 1335 = .ok (.iconst 0, 1) := by decide +kernel
theorem dL_law_1336 : decode cL_law 1336 = .ok (.ireturn, 1) := by decide +kernel
theorem dL_law_1337 : decode cL_law 1337 = .ok (.iload 5, 2) := by decide +kernel
theorem dL_law_1339 : decode cL_law 1339 = .ok (.ifCond .ne 15, 3) := by decide +kernel
theorem dL_law_1342 : decode cL_law 1342 = .ok (.aload_n 3, 1) := by decide +kernel
theorem dL_law_1343 : decode cL_law 1343 = .ok (.iconst 0, 1) := by decide +kernel
theorem dL_law_1344 : decode cL_law 1344 = .ok (.laload, 1) := by decide +kernel
theorem dL_law_1345 : decode cL_law 1345 = .ok (.iload 6, 2) := by decide +kernel
theorem dL_law_1347 : decode cL_law 1347 = .ok (.i2l, 1) := by decide +kernel
theorem dL_law_1348 : decode cL_law 1348 = .ok (.lcmp, 1) := by decide +kernel
theorem dL_law_1349 : decode cL_law 1349 = .ok (.ifCond .eq 5, 3) := by decide +kernel
theorem dL_law_1352 : decode cL_law 1352 = .ok (.iconst 0, 1) := by decide +kernel
theorem dL_law_1353 : decode cL_law 1353 = .ok (.ireturn, 1) := by decide +kernel
theorem dL_law_1354 : decode cL_law 1354 = .ok (.goto 427, 3) := by decide +kernel
theorem dL_law_1357 : decode cL_law 1357 = .ok (.aload_n 1, 1) := by decide +kernel
theorem dL_law_1358 : decode cL_law 1358 = .ok (.invokevirtual 171, 3) := by decide +kernel
theorem dL_law_1361 : decode cL_law 1361 = .ok (.aload_n 2, 1) := by decide +kernel
theorem dL_law_1362 : decode cL_law 1362 = .ok (.invokevirtual 174, 3) := by decide +kernel
theorem dL_law_1365 : decode cL_law 1365 = .ok (.if_icmp .eq 416, 3) := by decide +kernel
theorem dL_law_1368 : decode cL_law 1368 = .ok (.iconst 0, 1) := by decide +kernel
theorem dL_law_1369 : decode cL_law 1369 = .ok (.ireturn, 1) := by decide +kernel
theorem dL_law_1370 : decode cL_law 1370 = .ok (.aload_n 1, 1) := by decide +kernel
theorem dL_law_1371 : decode cL_law 1371 = .ok (.invokevirtual 175, 3) := by decide +kernel
theorem dL_law_1374 : decode cL_law 1374 = .ok (.aload_n 2, 1) := by decide +kernel
theorem dL_law_1375 : decode cL_law 1375 = .ok (.invokevirtual 178, 3) := by decide +kernel
theorem dL_law_1378 : decode cL_law 1378 = .ok (.if_icmp .eq 403, 3) := by decide +kernel
theorem dL_law_1381 : decode cL_law 1381 = .ok (.iconst 0, 1) := by decide +kernel
theorem dL_law_1382 : decode cL_law 1382 = .ok (.ireturn, 1) := by decide +kernel
theorem dL_law_1383 : decode cL_law 1383 = .ok (.aload_n 1, 1) := by decide +kernel
theorem dL_law_1384 : decode cL_law 1384 = .ok (.invokevirtual 179, 3) := by decide +kernel
theorem dL_law_1387 : decode cL_law 1387 = .ok (.aload_n 2, 1) := by decide +kernel
theorem dL_law_1388 : decode cL_law 1388 = .ok (.invokevirtual 182, 3) := by decide +kernel
theorem dL_law_1391 : decode cL_law 1391 = .ok (.if_icmp .eq 390, 3) := by decide +kernel
theorem dL_law_1394 : decode cL_law 1394 = .ok (.iconst 0, 1) := by decide +kernel
theorem dL_law_1395 : decode cL_law 1395 = .ok (.ireturn, 1) := by decide +kernel
theorem dL_law_1396 : decode cL_law 1396 = .ok (.aload_n 1, 1) := by decide +kernel
theorem dL_law_1397 : decode cL_law 1397 = .ok (.aload_n 0, 1) := by decide +kernel
theorem dL_law_1398 : decode cL_law 1398 = .ok (.iload 4, 2) := by decide +kernel
theorem dL_law_1400 : decode cL_law 1400 = .ok (.iconst 1, 1) := by decide +kernel
theorem dL_law_1401 : decode cL_law 1401 = .ok (.iadd, 1) := by decide +kernel
theorem dL_law_1402 : decode cL_law 1402 = .ok (.iaload, 1) := by decide +kernel
theorem dL_law_1403 : decode cL_law 1403 = .ok (.aload_n 3, 1) := by decide +kernel
theorem dL_law_1404 : decode cL_law 1404 = .ok (.invokestatic 183, 3) := by decide +kernel
theorem dL_law_1407 : decode cL_law 1407 = .ok (.istore 5, 2) := by decide +kernel
theorem dL_law_1409 : decode cL_law 1409 = .ok (.aload_n 2, 1) := by decide +kernel
theorem dL_law_1410 : decode cL_law 1410 = .ok (.aload_n 0, 1) := by decide +kernel
theorem dL_law_1411 : decode cL_law 1411 = .ok (.iload 4, 2) := by decide +kernel
theorem dL_law_1413 : decode cL_law 1413 = .ok (.iconst 1, 1) := by decide +kernel
theorem dL_law_1414 : decode cL_law 1414 = .ok (.iadd, 1) := by decide +kernel
theorem dL_law_1415 : decode cL_law 1415 = .ok (.iaload, 1) := by decide +kernel
theorem dL_law_1416 : decode cL_law 1416 = .ok (.invokevirtual 185, 3) := by decide +kernel
theorem dL_law_1419 : decode cL_law 1419 = .ok (.istore 6, 2) := by decide +kernel
theorem dL_law_1421 : decode cL_law 1421 = .ok (.aload_n 2, 1) := by decide +kernel
theorem dL_law_1422 : decode cL_law 1422 = .ok (.invokevirtual 94, 3) := by decide +kernel
theorem dL_law_1425 : decode cL_law 1425 = .ok (.iload 5, 2) := by decide +kernel
theorem dL_law_1427 : decode cL_law 1427 = .ok (.if_icmp .eq 5, 3) := by decide +kernel
theorem dL_law_1430 : decode cL_law 1430 = .ok (.iconst 0, 1) := by decide +kernel
theorem dL_law_1431 : decode cL_law 1431 = .ok (.ireturn, 1) := by decide +kernel
theorem dL_law_1432 : decode cL_law 1432 = .ok (.iload 5, 2) := by decide +kernel
theorem dL_law_1434 : decode cL_law 1434 = .ok (.ifCond .ne 15, 3) := by decide +kernel
theorem dL_law_1437 : decode cL_law 1437 = .ok (.aload_n 3, 1) := by decide +kernel
theorem dL_law_1438 : decode cL_law 1438 = .ok (.iconst 0, 1) := by decide +kernel
theorem dL_law_1439 : decode cL_law 1439 = .ok (.laload, 1) := by decide +kernel
theorem dL_law_1440 : decode cL_law 1440 = .ok (.iload 6, 2) := by decide +kernel
theorem dL_law_1442 : decode cL_law 1442 = .ok (.i2l, 1) := by decide +kernel
theorem dL_law_1443 : decode cL_law 1443 = .ok (.lcmp, 1) := by decide +kernel
theorem dL_law_1444 : decode cL_law 1444 = .ok (.ifCond .eq 5, 3) := by decide +kernel
theorem dL_law_1447 : decode cL_law 1447 = .ok (.iconst 0, 1) := by decide +kernel
theorem dL_law_1448 : decode cL_law 1448 = .ok (.ireturn, 1) := by decide +kernel
theorem dL_law_1449 : decode cL_law 1449 = .ok (.goto 332, 3) := by decide +kernel
theorem dL_law_1452 : decode cL_law 1452 = .ok (.aload_n 1, 1) := by decide +kernel
theorem dL_law_1453 : decode cL_law 1453 = .ok (.aload_n 0, 1) := by decide +kernel
theorem dL_law_1454 : decode cL_law 1454 = .ok (.iload 4, 2) := by decide +kernel
theorem dL_law_1456 : decode cL_law 1456 = .ok (.iconst 1, 1) := by decide +kernel
theorem dL_law_1457 : decode cL_law 1457 = .ok (.iadd, 1) := by decide +kernel
theorem dL_law_1458 : decode cL_law 1458 = .ok (.iaload, 1) := by decide +kernel
theorem dL_law_1459 : decode cL_law 1459 = .ok (.aload_n 3, 1) := by decide +kernel
theorem dL_law_1460 : decode cL_law 1460 = .ok (.invokestatic 186, 3) := by decide +kernel
theorem dL_law_1463 : decode cL_law 1463 = .ok (.istore 5, 2) := by decide +kernel
theorem dL_law_1465 : decode cL_law 1465 = .ok (.aload_n 2, 1) := by decide +kernel
theorem dL_law_1466 : decode cL_law 1466 = .ok (.aload_n 0, 1) := by decide +kernel
theorem dL_law_1467 : decode cL_law 1467 = .ok (.iload 4, 2) := by decide +kernel
theorem dL_law_1469 : decode cL_law 1469 = .ok (.iconst 1, 1) := by decide +kernel
theorem dL_law_1470 : decode cL_law 1470 = .ok (.iadd, 1) := by decide +kernel
theorem dL_law_1471 : decode cL_law 1471 = .ok (.iaload, 1) := by decide +kernel
theorem dL_law_1472 : decode cL_law 1472 = .ok (.invokevirtual 188, 3) := by decide +kernel
theorem dL_law_1475 : decode cL_law 1475 = .ok (.istore 6, 2) := by decide +kernel
theorem dL_law_1477 : decode cL_law 1477 = .ok (.aload_n 2, 1) := by decide +kernel
theorem dL_law_1478 : decode cL_law 1478 = .ok (.invokevirtual 94, 3) := by decide +kernel
theorem dL_law_1481 : decode cL_law 1481 = .ok (.iload 5, 2) := by decide +kernel
theorem dL_law_1483 : decode cL_law 1483 = .ok (.if_icmp .eq 5, 3) := by decide +kernel
theorem dL_law_1486 : decode cL_law 1486 = .ok (.iconst 0, 1) := by decide +kernel
theorem dL_law_1487 : decode cL_law 1487 = .ok (.ireturn, 1) := by decide +kernel
theorem dL_law_1488 : decode cL_law 1488 = .ok (.iload 5, 2) := by decide +kernel
theorem dL_law_1490 : decode cL_law 1490 = .ok (.ifCond .ne 15, 3) := by decide +kernel
theorem dL_law_1493 : decode cL_law 1493 = .ok (.aload_n 3, 1) := by decide +kernel
theorem dL_law_1494 : decode cL_law 1494 = .ok (.iconst 0, 1) := by decide +kernel
theorem dL_law_1495 : decode cL_law 1495 = .ok (.laload, 1) := by decide +kernel
theorem dL_law_1496 : decode cL_law 1496 = .ok (.iload 6, 2) := by decide +kernel
theorem dL_law_1498 : decode cL_law 1498 = .ok (.i2l, 1) := by decide +kernel
theorem dL_law_1499 : decode cL_law 1499 = .ok (.lcmp, 1) := by decide +kernel
theorem dL_law_1500 : decode cL_law 1500 = .ok (.ifCond .eq 5, 3) := by decide +kernel
theorem dL_law_1503 : decode cL_law 1503 = .ok (.iconst 0, 1) := by decide +kernel
theorem dL_law_1504 : decode cL_law 1504 = .ok (.ireturn, 1) := by decide +kernel
theorem dL_law_1505 : decode cL_law 1505 = .ok (.goto 276, 3) := by decide +kernel
theorem dL_law_1508 : decode cL_law 1508 = .ok (.aload_n 1, 1) := by decide +kernel
theorem dL_law_1509 : decode cL_law 1509 = .ok (.aload_n 3, 1) := by decide +kernel
theorem dL_law_1510 : decode cL_law 1510 = .ok (.invokestatic 189, 3) := by decide +kernel
theorem dL_law_1513 : decode cL_law 1513 = .ok (.istore 5, 2) := by decide +kernel
theorem dL_law_1515 : decode cL_law 1515 = .ok (.aload_n 2, 1) := by decide +kernel
theorem dL_law_1516 : decode cL_law 1516 = .ok (.invokevirtual 191, 3) := by decide +kernel
theorem dL_law_1519 : decode cL_law 1519 = .ok (.istore 6, 2) := by decide +kernel
theorem dL_law_1521 : decode cL_law 1521 = .ok (.aload_n 2, 1) := by decide +kernel
theorem dL_law_1522 : decode cL_law 1522 = .ok (.invokevirtual 94, 3) := by decide +kernel
theorem dL_law_1525 : decode cL_law 1525 = .ok (.iload 5, 2) := by decide +kernel
theorem dL_law_1527 : decode cL_law 1527 = .ok (.if_icmp .eq 5, 3) := by decide +kernel
theorem dL_law_1530 : decode cL_law 1530 = .ok (.iconst 0, 1) := by decide +kernel
theorem dL_law_1531 : decode cL_law 1531 = .ok (.ireturn, 1) := by decide +kernel
theorem dL_law_1532 : decode cL_law 1532 = .ok (.iload 5, 2) := by decide +kernel
theorem dL_law_1534 : decode cL_law 1534 = .ok (.ifCond .ne 15, 3) := by decide +kernel
theorem dL_law_1537 : decode cL_law 1537 = .ok (.aload_n 3, 1) := by decide +kernel
theorem dL_law_1538 : decode cL_law 1538 = .ok (.iconst 0, 1) := by decide +kernel
theorem dL_law_1539 : decode cL_law 1539 = .ok (.laload, 1) := by decide +kernel
theorem dL_law_1540 : decode cL_law 1540 = .ok (.iload 6, 2) := by decide +kernel
theorem dL_law_1542 : decode cL_law 1542 = .ok (.i2l, 1) := by decide +kernel
theorem dL_law_1543 : decode cL_law 1543 = .ok (.lcmp, 1) := by decide +kernel
theorem dL_law_1544 : decode cL_law 1544 = .ok (.ifCond .eq 5, 3) := by decide +kernel
theorem dL_law_1547 : decode cL_law 1547 = .ok (.iconst 0, 1) := by decide +kernel
theorem dL_law_1548 : decode cL_law 1548 = .ok (.ireturn, 1) := by decide +kernel
theorem dL_law_1549 : decode cL_law 1549 = .ok (.goto 232, 3) := by decide +kernel
theorem dL_law_1552 : decode cL_law 1552 = .ok (.aload_n 1, 1) := by decide +kernel
theorem dL_law_1553 : decode cL_law 1553 = .ok (.aload_n 0, 1) := by decide +kernel
theorem dL_law_1554 : decode cL_law 1554 = .ok (.iload 4, 2) := by decide +kernel
theorem dL_law_1556 : decode cL_law 1556 = .ok (.iconst 1, 1) := by decide +kernel
theorem dL_law_1557 : decode cL_law 1557 = .ok (.iadd, 1) := by decide +kernel
theorem dL_law_1558 : decode cL_law 1558 = .ok (.iaload, 1) := by decide +kernel
theorem dL_law_1559 : decode cL_law 1559 = .ok (.aload_n 0, 1) := by decide +kernel
theorem dL_law_1560 : decode cL_law 1560 = .ok (.iload 4, 2) := by decide +kernel
theorem dL_law_1562 : decode cL_law 1562 = .ok (.iconst 2, 1) := by decide +kernel
theorem dL_law_1563 : decode cL_law 1563 = .ok (.iadd, 1) := by decide +kernel
theorem dL_law_1564 : decode cL_law 1564 = .ok (.iaload, 1) := by decide +kernel
theorem dL_law_1565 : decode cL_law 1565 = .ok (.aload_n 3, 1) := by decide +kernel
theorem dL_law_1566 : decode cL_law 1566 = .ok (.invokestatic 192, 3) := by decide +kernel
theorem dL_law_1569 : decode cL_law 1569 = .ok (.istore 5, 2) := by decide +kernel
theorem dL_law_1571 : decode cL_law 1571 = .ok (.aload_n 2, 1) := by decide +kernel
theorem dL_law_1572 : decode cL_law 1572 = .ok (.aload_n 0, 1) := by decide +kernel
theorem dL_law_1573 : decode cL_law 1573 = .ok (.iload 4, 2) := by decide +kernel
theorem dL_law_1575 : decode cL_law 1575 = .ok (.iconst 1, 1) := by decide +kernel
theorem dL_law_1576 : decode cL_law 1576 = .ok (.iadd, 1) := by decide +kernel
theorem dL_law_1577 : decode cL_law 1577 = .ok (.iaload, 1) := by decide +kernel
theorem dL_law_1578 : decode cL_law 1578 = .ok (.aload_n 0, 1) := by decide +kernel
theorem dL_law_1579 : decode cL_law 1579 = .ok (.iload 4, 2) := by decide +kernel
theorem dL_law_1581 : decode cL_law 1581 = .ok (.iconst 2, 1) := by decide +kernel
theorem dL_law_1582 : decode cL_law 1582 = .ok (.iadd, 1) := by decide +kernel
theorem dL_law_1583 : decode cL_law 1583 = .ok (.iaload, 1) := by decide +kernel
theorem dL_law_1584 : decode cL_law 1584 = .ok (.invokevirtual 194, 3) := by decide +kernel
theorem dL_law_1587 : decode cL_law 1587 = .ok (.istore 6, 2) := by decide +kernel
theorem dL_law_1589 : decode cL_law 1589 = .ok (.aload_n 2, 1) := by decide +kernel
theorem dL_law_1590 : decode cL_law 1590 = .ok (.invokevirtual 94, 3) := by decide +kernel
theorem dL_law_1593 : decode cL_law 1593 = .ok (.iload 5, 2) := by decide +kernel
theorem dL_law_1595 : decode cL_law 1595 = .ok (.if_icmp .eq 5, 3) := by decide +kernel
theorem dL_law_1598 : decode cL_law 1598 = .ok (.iconst 0, 1) := by decide +kernel
theorem dL_law_1599 : decode cL_law 1599 = .ok (.ireturn, 1) := by decide +kernel
theorem dL_law_1600 : decode cL_law 1600 = .ok (.iload 5, 2) := by decide +kernel
theorem dL_law_1602 : decode cL_law 1602 = .ok (.ifCond .ne 15, 3) := by decide +kernel
theorem dL_law_1605 : decode cL_law 1605 = .ok (.aload_n 3, 1) := by decide +kernel
theorem dL_law_1606 : decode cL_law 1606 = .ok (.iconst 0, 1) := by decide +kernel
theorem dL_law_1607 : decode cL_law 1607 = .ok (.laload, 1) := by decide +kernel
theorem dL_law_1608 : decode cL_law 1608 = .ok (.iload 6, 2) := by decide +kernel
theorem dL_law_1610 : decode cL_law 1610 = .ok (.i2l, 1) := by decide +kernel
theorem dL_law_1611 : decode cL_law 1611 = .ok (.lcmp, 1) := by decide +kernel
theorem dL_law_1612 : decode cL_law 1612 = .ok (.ifCond .eq 5, 3) := by decide +kernel
theorem dL_law_1615 : decode cL_law 1615 = .ok (.iconst 0, 1) := by decide +kernel
theorem dL_law_1616 : decode cL_law 1616 = .ok (.ireturn, 1) := by decide +kernel
theorem dL_law_1617 : decode cL_law 1617 = .ok (.goto 164, 3) := by decide +kernel
theorem dL_law_1620 : decode cL_law 1620 = .ok (.aload_n 1, 1) := by decide +kernel
theorem dL_law_1621 : decode cL_law 1621 = .ok (.aload_n 0, 1) := by decide +kernel
theorem dL_law_1622 : decode cL_law 1622 = .ok (.iload 4, 2) := by decide +kernel
theorem dL_law_1624 : decode cL_law 1624 = .ok (.iconst 1, 1) := by decide +kernel
theorem dL_law_1625 : decode cL_law 1625 = .ok (.iadd, 1) := by decide +kernel
theorem dL_law_1626 : decode cL_law 1626 = .ok (.iaload, 1) := by decide +kernel
theorem dL_law_1627 : decode cL_law 1627 = .ok (.aload_n 0, 1) := by decide +kernel
theorem dL_law_1628 : decode cL_law 1628 = .ok (.iload 4, 2) := by decide +kernel
theorem dL_law_1630 : decode cL_law 1630 = .ok (.iconst 2, 1) := by decide +kernel
theorem dL_law_1631 : decode cL_law 1631 = .ok (.iadd, 1) := by decide +kernel
theorem dL_law_1632 : decode cL_law 1632 = .ok (.iaload, 1) := by decide +kernel
theorem dL_law_1633 : decode cL_law 1633 = .ok (.aload_n 3, 1) := by decide +kernel
theorem dL_law_1634 : decode cL_law 1634 = .ok (.invokestatic 195, 3) := by decide +kernel
theorem dL_law_1637 : decode cL_law 1637 = .ok (.istore 5, 2) := by decide +kernel
theorem dL_law_1639 : decode cL_law 1639 = .ok (.aload_n 2, 1) := by decide +kernel
theorem dL_law_1640 : decode cL_law 1640 = .ok (.aload_n 0, 1) := by decide +kernel
theorem dL_law_1641 : decode cL_law 1641 = .ok (.iload 4, 2) := by decide +kernel
theorem dL_law_1643 : decode cL_law 1643 = .ok (.iconst 1, 1) := by decide +kernel
theorem dL_law_1644 : decode cL_law 1644 = .ok (.iadd, 1) := by decide +kernel
theorem dL_law_1645 : decode cL_law 1645 = .ok (.iaload, 1) := by decide +kernel
theorem dL_law_1646 : decode cL_law 1646 = .ok (.aload_n 0, 1) := by decide +kernel
theorem dL_law_1647 : decode cL_law 1647 = .ok (.iload 4, 2) := by decide +kernel
theorem dL_law_1649 : decode cL_law 1649 = .ok (.iconst 2, 1) := by decide +kernel
theorem dL_law_1650 : decode cL_law 1650 = .ok (.iadd, 1) := by decide +kernel
theorem dL_law_1651 : decode cL_law 1651 = .ok (.iaload, 1) := by decide +kernel
theorem dL_law_1652 : decode cL_law 1652 = .ok (.invokevirtual 197, 3) := by decide +kernel
theorem dL_law_1655 : decode cL_law 1655 = .ok (.istore 6, 2) := by decide +kernel
theorem dL_law_1657 : decode cL_law 1657 = .ok (.aload_n 2, 1) := by decide +kernel
theorem dL_law_1658 : decode cL_law 1658 = .ok (.invokevirtual 94, 3) := by decide +kernel
theorem dL_law_1661 : decode cL_law 1661 = .ok (.iload 5, 2) := by decide +kernel
theorem dL_law_1663 : decode cL_law 1663 = .ok (.if_icmp .eq 5, 3) := by decide +kernel
theorem dL_law_1666 : decode cL_law 1666 = .ok (.iconst 0, 1) := by decide +kernel
theorem dL_law_1667 : decode cL_law 1667 = .ok (.ireturn, 1) := by decide +kernel
theorem dL_law_1668 : decode cL_law 1668 = .ok (.iload 5, 2) := by decide +kernel
theorem dL_law_1670 : decode cL_law 1670 = .ok (.ifCond .ne 15, 3) := by decide +kernel
theorem dL_law_1673 : decode cL_law 1673 = .ok (.aload_n 3, 1) := by decide +kernel
theorem dL_law_1674 : decode cL_law 1674 = .ok (.iconst 0, 1) := by decide +kernel
theorem dL_law_1675 : decode cL_law 1675 = .ok (.laload, 1) := by decide +kernel
theorem dL_law_1676 : decode cL_law 1676 = .ok (.iload 6, 2) := by decide +kernel
theorem dL_law_1678 : decode cL_law 1678 = .ok (.i2l, 1) := by decide +kernel
theorem dL_law_1679 : decode cL_law 1679 = .ok (.lcmp, 1) := by decide +kernel
theorem dL_law_1680 : decode cL_law 1680 = .ok (.ifCond .eq 5, 3) := by decide +kernel
theorem dL_law_1683 : decode cL_law 1683 = .ok (.iconst 0, 1) := by decide +kernel
theorem dL_law_1684 : decode cL_law 1684 = .ok (.ireturn, 1) := by decide +kernel
theorem dL_law_1685 : decode cL_law 1685 = .ok (.goto 96, 3) := by decide +kernel
theorem dL_law_1688 : decode cL_law 1688 = .ok (.aload_n 1, 1) := by decide +kernel
theorem dL_law_1689 : decode cL_law 1689 = .ok (.aload_n 0, 1) := by decide +kernel
theorem dL_law_1690 : decode cL_law 1690 = .ok (.iload 4, 2) := by decide +kernel
theorem dL_law_1692 : decode cL_law 1692 = .ok (.iconst 1, 1) := by decide +kernel
theorem dL_law_1693 : decode cL_law 1693 = .ok (.iadd, 1) := by decide +kernel
theorem dL_law_1694 : decode cL_law 1694 = .ok (.iaload, 1) := by decide +kernel
theorem dL_law_1695 : decode cL_law 1695 = .ok (.invokevirtual 198, 3) := by decide +kernel
theorem dL_law_1698 : decode cL_law 1698 = .ok (.aload_n 2, 1) := by decide +kernel
theorem dL_law_1699 : decode cL_law 1699 = .ok (.aload_n 0, 1) := by decide +kernel
theorem dL_law_1700 : decode cL_law 1700 = .ok (.iload 4, 2) := by decide +kernel
theorem dL_law_1702 : decode cL_law 1702 = .ok (.iconst 1, 1) := by decide +kernel
theorem dL_law_1703 : decode cL_law 1703 = .ok (.iadd, 1) := by decide +kernel
theorem dL_law_1704 : decode cL_law 1704 = .ok (.iaload, 1) := by decide +kernel
theorem dL_law_1705 : decode cL_law 1705 = .ok (.invokevirtual 201, 3) := by decide +kernel
theorem dL_law_1708 : decode cL_law 1708 = .ok (.if_icmp .eq 73, 3) := by decide +kernel
theorem dL_law_1711 : decode cL_law 1711 = .ok (.iconst 0, 1) := by decide +kernel
theorem dL_law_1712 : decode cL_law 1712 = .ok (.ireturn, 1) := by decide +kernel
theorem dL_law_1713 : decode cL_law 1713 = .ok (.aload_n 1, 1) := by decide +kernel
theorem dL_law_1714 : decode cL_law 1714 = .ok (.invokevirtual 202, 3) := by decide +kernel
theorem dL_law_1717 : decode cL_law 1717 = .ok (.aload_n 2, 1) := by decide +kernel
theorem dL_law_1718 : decode cL_law 1718 = .ok (.invokevirtual 205, 3) := by decide +kernel
theorem dL_law_1721 : decode cL_law 1721 = .ok (.if_icmp .eq 60, 3) := by decide +kernel
theorem dL_law_1724 : decode cL_law 1724 = .ok (.iconst 0, 1) := by decide +kernel
theorem dL_law_1725 : decode cL_law 1725 = .ok (.ireturn, 1) := by decide +kernel
theorem dL_law_1726 : decode cL_law 1726 = .ok (.aload_n 1, 1) := by decide +kernel
theorem dL_law_1727 : decode cL_law 1727 = .ok (.invokevirtual 206, 3) := by decide +kernel
theorem dL_law_1730 : decode cL_law 1730 = .ok (.dstore 5, 2) := by decide +kernel
theorem dL_law_1732 : decode cL_law 1732 = .ok (.aload_n 2, 1) := by decide +kernel
theorem dL_law_1733 : decode cL_law 1733 = .ok (.invokevirtual 210, 3) := by decide +kernel
theorem dL_law_1736 : decode cL_law 1736 = .ok (.dstore 7, 2) := by decide +kernel
theorem dL_law_1738 : decode cL_law 1738 = .ok (.dload 5, 2) := by decide +kernel
theorem dL_law_1740 : decode cL_law 1740 = .ok (.dload 7, 2) := by decide +kernel
theorem dL_law_1742 : decode cL_law 1742 = .ok (.dcmp .l, 1) := by decide +kernel
theorem dL_law_1743 : decode cL_law 1743 = .ok (.ifCond .eq 21, 3) := by decide +kernel
theorem dL_law_1746 : decode cL_law 1746 = .ok (.dload 5, 2) := by decide +kernel
theorem dL_law_1748 : decode cL_law 1748 = .ok (.dload 5, 2) := by decide +kernel
theorem dL_law_1750 : decode cL_law 1750 = .ok (.dcmp .l, 1) := by decide +kernel
theorem dL_law_1751 : decode cL_law 1751 = .ok (.ifCond .eq 11, 3) := by decide +kernel
theorem dL_law_1754 : decode cL_law 1754 = .ok (.dload 7, 2) := by decide +kernel
theorem dL_law_1756 : decode cL_law 1756 = .ok (.dload 7, 2) := by decide +kernel
theorem dL_law_1758 : decode cL_law 1758 = .ok (.dcmp .l, 1) := by decide +kernel
theorem dL_law_1759 : decode cL_law 1759 = .ok (.ifCond .ne 5, 3) := by decide +kernel
theorem dL_law_1762 : decode cL_law 1762 = .ok (.iconst 0, 1) := by decide +kernel
theorem dL_law_1763 : decode cL_law 1763 = .ok (.ireturn, 1) := by decide +kernel
theorem dL_law_1764 : decode cL_law 1764 = .ok (.goto 17, 3) := by decide +kernel
theorem dL_law_1767 : decode cL_law 1767 = .ok (.aload_n 1, 1) := by decide +kernel
theorem dL_law_1768 : decode cL_law 1768 = .ok (.invokevirtual 211, 3) := by decide +kernel
theorem dL_law_1771 : decode cL_law 1771 = .ok (.aload_n 2, 1) := by decide +kernel
theorem dL_law_1772 : decode cL_law 1772 = .ok (.invokevirtual 215, 3) := by decide +kernel
theorem dL_law_1775 : decode cL_law 1775 = .ok (.lcmp, 1) := by decide +kernel
theorem dL_law_1776 : decode cL_law 1776 = .ok (.ifCond .eq 5, 3) := by decide +kernel
theorem dL_law_1779 : decode cL_law 1779 = .ok (.iconst 0, 1) := by decide +kernel
theorem dL_law_1780 : decode cL_law 1780 = .ok (.ireturn, 1) := by decide +kernel
theorem dL_law_1781 : decode cL_law 1781 = .ok (.iinc 4 6, 3) := by decide +kernel
theorem dL_law_1784 : decode cL_law 1784 = .ok (.goto (-1761), 3) := by decide +kernel
theorem dL_law_1787 : decode cL_law 1787 = .ok (.iconst 1, 1) := by decide +kernel
theorem dL_law_1788 : decode cL_law 1788 = .ok (.ireturn, 1) := by decide +kernel
/-! THE LAW: the class's objects, the reference's, the out cell, side by side; all new -/
def pz_K (ad rd : Nat → Nat) (ao n : Nat) : Prop := pt_I ad ∧ rt_I rd ∧ (∀ k j, k < 387 → j < 13 → ad k ≠ rd j) ∧ (∀ k, k < 387 → ad k ≠ ao) ∧ (∀ j, j < 13 → rd j ≠ ao) ∧ (∀ k, k < 387 → n ≤ ad k) ∧ (∀ j, j < 13 → n ≤ rd j) ∧ n ≤ ao
theorem pz_keep {D : va_G} {cl : List vw_C} {ws : va_W} {H H1 : Heap} {B : Nat → Prop} (h : va_P D cl ws H) (hn : ∀ (k : Nat) (q : Nat × va_E), ws[k]? = some q → q.1 < H.size → ¬ B q.1) (ho : ∀ q : Nat, q < H.size → ¬ B q → H1[q]? = H[q]?) : va_P D cl ws H1 := fun k q hk => (h k q hk).kept (ho q.1 (h k q hk).lt (hn k q hk (h k q hk).lt))
theorem pz_raddr {cA : Nat → ClassId} {rd : Nat → Nat} {M : pt_M} {k : Nat} {q : Nat × va_E} (h : (rt_W cA rd M)[k]? = some q) : ∃ j, j < 13 ∧ q.1 = rd j := by
  have hk : k < 13 := by
    have := (List.getElem?_eq_some_iff.mp h).1
    simpa [rt_W] using this
  rw [rt_W_get hk] at h
  cases h
  exact ⟨k, hk, rfl⟩
theorem pz_oaddr {cA : Nat → ClassId} {ao : Nat} {g : Nat → Int64} {k : Nat} {q : Nat × va_E} (h : (pw_O cA ao g)[k]? = some q) : q.1 = ao := by
  match k, h with
  | 0, h => cases h; rfl
  | k + 1, h => simp [pw_O] at h
/-- past a wrapper's call: the reference stays -/
theorem pz_r1 {D : va_G} {cA : Nat → ClassId} {ad rd : Nat → Nat} {ao n : Nat} {M : pt_M} {H H1 : Heap} (K : pz_K ad rd ao n) (h : va_P D pt_cl (rt_W cA rd M) H) (ho : ∀ q : Nat, q < H.size → ¬ pw_fr ad ao H.size q → H1[q]? = H[q]?) : va_P D pt_cl (rt_W cA rd M) H1 := pz_keep h (fun k q hk hl hB => by
  obtain ⟨j, hj, e⟩ := pz_raddr hk
  rcases hB with (⟨i, hi, e2⟩ | hB) | hB
  · exact K.2.2.1 i j hi hj (e2.symm.trans e)
  · omega
  · exact K.2.2.2.2.1 j hj (e.symm.trans hB)) ho
theorem pz_r2 {D : va_G} {cA : Nat → ClassId} {ad rd : Nat → Nat} {ao n : Nat} {M : pt_M} {H H1 : Heap} (K : pz_K ad rd ao n) (h : va_P D pt_cl (rt_W cA rd M) H) (ho : ∀ q : Nat, q < H.size → ¬ pt_fr ad H.size q → H1[q]? = H[q]?) : va_P D pt_cl (rt_W cA rd M) H1 := pz_r1 K h (fun q h1 h2 => ho q h1 (fun z => h2 (Or.inl z)))
/-- past the reference's call: the out cell stays -/
theorem pz_o1 {D : va_G} {cA : Nat → ClassId} {ad rd : Nat → Nat} {ao n : Nat} {g : Nat → Int64} {H H1 : Heap} (K : pz_K ad rd ao n) (h : va_P D pt_cl (pw_O cA ao g) H) (ho : ∀ q : Nat, q < H.size → ¬ rt_fr rd H.size q → H1[q]? = H[q]?) : va_P D pt_cl (pw_O cA ao g) H1 := pz_keep h (fun k q hk hl hB => by
  have e := pz_oaddr hk
  rcases hB with ⟨i, hi, e2⟩ | hB
  · exact K.2.2.2.2.1 i hi (e2.symm.trans e)
  · omega) ho
theorem pz_fa {ad rd : Nat → Nat} {ao n sz : Nat} (K : pz_K ad rd ao n) (h : n ≤ sz) : (∀ q, pw_fr ad ao sz q → (fun q : Nat => n ≤ q) q) ∧ (∀ q, rt_fr rd sz q → (fun q : Nat => n ≤ q) q) ∧ (∀ q, pt_fr ad sz q → (fun q : Nat => n ≤ q) q) := by
  have h3 : ∀ q, pt_fr ad sz q → n ≤ q := fun q hq => by
    rcases hq with ⟨i, hi, e⟩ | hq
    · rw [e]; exact K.2.2.2.2.2.1 i hi
    · omega
  refine ⟨fun q hq => ?_, fun q hq => ?_, h3⟩
  · rcases hq with hq | hq
    · exact h3 q hq
    · rw [hq]; exact K.2.2.2.2.2.2.2
  · show n ≤ q
    rcases hq with ⟨i, hi, e⟩ | hq
    · rw [e]; exact K.2.2.2.2.2.2.1 i hi
    · omega
theorem pz_thblind {D : va_G} {cA : Nat → ClassId} {Y : va_W} {As : List Value} : FrameBlind (va_Pc As (fun U => va_P D pt_cl Y U.heap ∧ va_K D pt_cl (pt_T cA) U)) := rt_szblind
set_option maxHeartbeats 4000000 in
set_option maxRecDepth 100000 in
theorem mtTH0 (l : Launch) (D : va_G) (cA : Nat → ClassId) (q : Nat) (t0 : Int32) (a1 a2 a3 a4 : Value) : Met l yX12_thrown (Cond.code yX12_thrown cX12_thrown 1 (some .int) :: lw_all) ({ frames := 0, cells := 0, slots := 0, locals := 0 } : Room) (va_Pc [.ref q] (fun U => va_P D pt_cl [(q, .inr (12, [.int t0, a1, a2, a3, a4]))] U.heap ∧ va_K D pt_cl (pt_T cA) U)) (va_Qi (fun (r : Int32) (_ : Unit) => r = t0) (fun _ _ => True) (fun _ => False)) 0 0 (fun _ => False) := by
  refine Met.ofW (cc := cX12_thrown) (maxL := 1) (ret := (some .int)) (by decide) rfl ?_
  intro p e s m args below meth c s₁ B hml hv
  obtain ⟨rfl, hP, hK⟩ := hv
  have hx := B.exec
  have hb := B.bytes
  have hr := B.returns
  have hts0 := atoms_spec (ws := (Cond.code yX12_thrown cX12_thrown 1 (some .int) :: lw_all)) B.pre
  have hown : s.vm.findClass RX12 = some m.cls := findClass_of_methodNamed B.named
  have hlocks := B.notSynchronized
  have F : pt_F p m c cX12_thrown 1 s _ RX12 D cA := ⟨⟨hx, hb, hml, hown, fun w h => hts0 w (List.mem_cons_of_mem _ h)⟩, hK⟩
  replace hP : va_P D pt_cl (([] : va_W) ++ [(q, .inr (12, [.int t0, a1, a2, a3, a4]))]) s.heap := hP
  have hS : va_S (fun _ => False) s.heap s.heap [] := va_S.rf
  have hl := lv_entry ([.ref q]) (n := 1) (Nat.le_of_ble_eq_true rfl)
  rw [lg_entry_eq]
  generalize (lg_sl ([.ref q]) ++ List.replicate (1 - (lg_sl ([.ref q])).length) Slot.unset).toArray = ls at hl ⊢
  have hl : lv_has ls 1 [(0, .ref q)] := hl
  refine lv_aload_n hx hb dX12_thrown_0 rfl (lv_at hl 0 rfl) ?_
  refine sx_get F hP 0 rfl inX12 rfl 0 (by decide) kw_1139 rfl rfl dX12_thrown_1 ?_
  exact W.iret (v := t0) hx hb hr (fun t ht hW => ⟨⟨_, (), rfl, rfl, trivial⟩, hS.F ht⟩) (fun q hq => absurd hq List.not_mem_nil) dX12_thrown_4
theorem pz_cmp (x : Int64) : lg_cmp x x = 0 := by
  unfold lg_cmp
  simp
/-- what the reference's memory is behind its constructor -/
def pz_M0 : pt_M := fun k => if k = 2 then (fun j => if j = 0 then 1 else if j = 2 then 1 else 0) else if k = 4 then (fun j => if j = 0 then -1 else if j = 2 then -1 else 0) else (fun _ => 0)
