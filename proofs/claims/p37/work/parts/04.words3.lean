-- the places of the words
set_option maxRecDepth 100000 in
theorem kw_694 : (Jvm.Cond.instanceMethod ({ cls := "PuppetTheatre", name := "rowAt", desc := "(I)I" } : Jvm.MethodName)) ∈ lw_all := pt_all (List.mem_of_getElem? (i := 694) rfl) rfl
set_option maxRecDepth 100000 in
theorem kw_695 : (Jvm.Cond.selects "PuppetTheatre" ({ cls := "PuppetTheatre", name := "rowAt", desc := "(I)I" } : Jvm.MethodName) ({ cls := "PuppetTheatre", name := "rowAt", desc := "(I)I" } : Jvm.MethodName)) ∈ lw_all := pt_all (List.mem_of_getElem? (i := 695) rfl) rfl
set_option maxRecDepth 100000 in
theorem kw_696 : (Jvm.Cond.code ({ cls := "PuppetTheatre", name := "rowAt", desc := "(I)I" } : Jvm.MethodName) prog_1_method_32_code (2 : Nat) (Option.some Jvm.ClassFile.FieldType.int)) ∈ lw_all := pt_all (List.mem_of_getElem? (i := 696) rfl) rfl
set_option maxRecDepth 100000 in
theorem kw_697 : (Jvm.Cond.methodLink "PuppetTheatreLaw" (75 : Nat) ({ cls := "PuppetTheatre", name := "digest", desc := "()J" } : Jvm.MethodName)) ∈ lw_all := pt_all (List.mem_of_getElem? (i := 697) rfl) rfl
set_option maxRecDepth 100000 in
theorem kw_698 : (Jvm.Cond.instanceMethod ({ cls := "PuppetTheatre", name := "digest", desc := "()J" } : Jvm.MethodName)) ∈ lw_all := pt_all (List.mem_of_getElem? (i := 698) rfl) rfl
set_option maxRecDepth 100000 in
theorem kw_699 : (Jvm.Cond.selects "PuppetTheatre" ({ cls := "PuppetTheatre", name := "digest", desc := "()J" } : Jvm.MethodName) ({ cls := "PuppetTheatre", name := "digest", desc := "()J" } : Jvm.MethodName)) ∈ lw_all := pt_all (List.mem_of_getElem? (i := 699) rfl) rfl
set_option maxRecDepth 100000 in
theorem kw_700 : (Jvm.Cond.code ({ cls := "PuppetTheatre", name := "digest", desc := "()J" } : Jvm.MethodName) prog_1_method_35_code (4 : Nat) (Option.some Jvm.ClassFile.FieldType.long)) ∈ lw_all := pt_all (List.mem_of_getElem? (i := 700) rfl) rfl
set_option maxRecDepth 100000 in
theorem kw_701 : (Jvm.Cond.constantLong "PuppetTheatre" (241 : Nat) (58059 : Int64)) ∈ lw_all := pt_all (List.mem_of_getElem? (i := 701) rfl) rfl
set_option maxRecDepth 100000 in
theorem kw_702 : (Jvm.Cond.constantLong "PuppetTheatre" (243 : Nat) (31 : Int64)) ∈ lw_all := pt_all (List.mem_of_getElem? (i := 702) rfl) rfl
set_option maxRecDepth 100000 in
theorem kw_703 : (Jvm.Cond.methodLink "PuppetTheatre" (245 : Nat) ({ cls := "PuppetTheatre", name := "states", desc := "()I" } : Jvm.MethodName)) ∈ lw_all := pt_all (List.mem_of_getElem? (i := 703) rfl) rfl
set_option maxRecDepth 100000 in
theorem kw_704 : (Jvm.Cond.instanceMethod ({ cls := "PuppetTheatre", name := "states", desc := "()I" } : Jvm.MethodName)) ∈ lw_all := pt_all (List.mem_of_getElem? (i := 704) rfl) rfl
set_option maxRecDepth 100000 in
theorem kw_705 : (Jvm.Cond.selects "PuppetTheatre" ({ cls := "PuppetTheatre", name := "states", desc := "()I" } : Jvm.MethodName) ({ cls := "PuppetTheatre", name := "states", desc := "()I" } : Jvm.MethodName)) ∈ lw_all := pt_all (List.mem_of_getElem? (i := 705) rfl) rfl
set_option maxRecDepth 100000 in
theorem kw_706 : (Jvm.Cond.code ({ cls := "PuppetTheatre", name := "states", desc := "()I" } : Jvm.MethodName) prog_1_method_12_code (1 : Nat) (Option.some Jvm.ClassFile.FieldType.int)) ∈ lw_all := pt_all (List.mem_of_getElem? (i := 706) rfl) rfl
set_option maxRecDepth 100000 in
theorem kw_707 : (Jvm.Cond.methodLink "PuppetTheatre" (248 : Nat) ({ cls := "PuppetTheatre", name := "transitions", desc := "()I" } : Jvm.MethodName)) ∈ lw_all := pt_all (List.mem_of_getElem? (i := 707) rfl) rfl
set_option maxRecDepth 100000 in
theorem kw_708 : (Jvm.Cond.methodLink "PuppetTheatre" (250 : Nat) ({ cls := "PuppetTheatre", name := "isRunning", desc := "()Z" } : Jvm.MethodName)) ∈ lw_all := pt_all (List.mem_of_getElem? (i := 708) rfl) rfl
set_option maxRecDepth 100000 in
theorem kw_709 : (Jvm.Cond.instanceMethod ({ cls := "PuppetTheatre", name := "isRunning", desc := "()Z" } : Jvm.MethodName)) ∈ lw_all := pt_all (List.mem_of_getElem? (i := 709) rfl) rfl
set_option maxRecDepth 100000 in
theorem kw_710 : (Jvm.Cond.selects "PuppetTheatre" ({ cls := "PuppetTheatre", name := "isRunning", desc := "()Z" } : Jvm.MethodName) ({ cls := "PuppetTheatre", name := "isRunning", desc := "()Z" } : Jvm.MethodName)) ∈ lw_all := pt_all (List.mem_of_getElem? (i := 710) rfl) rfl
set_option maxRecDepth 100000 in
theorem kw_711 : (Jvm.Cond.code ({ cls := "PuppetTheatre", name := "isRunning", desc := "()Z" } : Jvm.MethodName) prog_1_method_15_code (1 : Nat) (Option.some Jvm.ClassFile.FieldType.boolean)) ∈ lw_all := pt_all (List.mem_of_getElem? (i := 711) rfl) rfl
set_option maxRecDepth 100000 in
theorem kw_712 : (Jvm.Cond.methodLink "PuppetTheatre" (253 : Nat) ({ cls := "PuppetTheatre", name := "active", desc := "()I" } : Jvm.MethodName)) ∈ lw_all := pt_all (List.mem_of_getElem? (i := 712) rfl) rfl
set_option maxRecDepth 100000 in
theorem kw_713 : (Jvm.Cond.methodLink "PuppetTheatre" (255 : Nat) ({ cls := "PuppetTheatre", name := "isOver", desc := "()Z" } : Jvm.MethodName)) ∈ lw_all := pt_all (List.mem_of_getElem? (i := 713) rfl) rfl
set_option maxRecDepth 100000 in
theorem kw_714 : (Jvm.Cond.methodLink "PuppetTheatre" (258 : Nat) ({ cls := "PuppetTheatre", name := "clock", desc := "()I" } : Jvm.MethodName)) ∈ lw_all := pt_all (List.mem_of_getElem? (i := 714) rfl) rfl
set_option maxRecDepth 100000 in
theorem kw_715 : (Jvm.Cond.methodLink "PuppetTheatre" (260 : Nat) ({ cls := "PuppetTheatre", name := "covered", desc := "()I" } : Jvm.MethodName)) ∈ lw_all := pt_all (List.mem_of_getElem? (i := 715) rfl) rfl
set_option maxRecDepth 100000 in
theorem kw_716 : (Jvm.Cond.methodLink "PuppetTheatre" (263 : Nat) ({ cls := "PuppetTheatre", name := "lost", desc := "()I" } : Jvm.MethodName)) ∈ lw_all := pt_all (List.mem_of_getElem? (i := 716) rfl) rfl
set_option maxRecDepth 100000 in
theorem kw_717 : (Jvm.Cond.instanceMethod ({ cls := "PuppetTheatre", name := "lost", desc := "()I" } : Jvm.MethodName)) ∈ lw_all := pt_all (List.mem_of_getElem? (i := 717) rfl) rfl
set_option maxRecDepth 100000 in
theorem kw_718 : (Jvm.Cond.selects "PuppetTheatre" ({ cls := "PuppetTheatre", name := "lost", desc := "()I" } : Jvm.MethodName) ({ cls := "PuppetTheatre", name := "lost", desc := "()I" } : Jvm.MethodName)) ∈ lw_all := pt_all (List.mem_of_getElem? (i := 718) rfl) rfl
set_option maxRecDepth 100000 in
theorem kw_719 : (Jvm.Cond.code ({ cls := "PuppetTheatre", name := "lost", desc := "()I" } : Jvm.MethodName) prog_1_method_25_code (1 : Nat) (Option.some Jvm.ClassFile.FieldType.int)) ∈ lw_all := pt_all (List.mem_of_getElem? (i := 719) rfl) rfl
set_option maxRecDepth 100000 in
theorem kw_720 : (Jvm.Cond.methodLink "PuppetTheatre" (265 : Nat) ({ cls := "PuppetTheatre", name := "restless", desc := "()I" } : Jvm.MethodName)) ∈ lw_all := pt_all (List.mem_of_getElem? (i := 720) rfl) rfl
set_option maxRecDepth 100000 in
theorem kw_721 : (Jvm.Cond.methodLink "PuppetTheatre" (267 : Nat) ({ cls := "PuppetTheatre", name := "looked", desc := "()I" } : Jvm.MethodName)) ∈ lw_all := pt_all (List.mem_of_getElem? (i := 721) rfl) rfl
set_option maxRecDepth 100000 in
theorem kw_722 : (Jvm.Cond.instanceMethod ({ cls := "PuppetTheatre", name := "looked", desc := "()I" } : Jvm.MethodName)) ∈ lw_all := pt_all (List.mem_of_getElem? (i := 722) rfl) rfl
set_option maxRecDepth 100000 in
theorem kw_723 : (Jvm.Cond.selects "PuppetTheatre" ({ cls := "PuppetTheatre", name := "looked", desc := "()I" } : Jvm.MethodName) ({ cls := "PuppetTheatre", name := "looked", desc := "()I" } : Jvm.MethodName)) ∈ lw_all := pt_all (List.mem_of_getElem? (i := 723) rfl) rfl
set_option maxRecDepth 100000 in
theorem kw_724 : (Jvm.Cond.code ({ cls := "PuppetTheatre", name := "looked", desc := "()I" } : Jvm.MethodName) prog_1_method_33_code (1 : Nat) (Option.some Jvm.ClassFile.FieldType.int)) ∈ lw_all := pt_all (List.mem_of_getElem? (i := 724) rfl) rfl
set_option maxRecDepth 100000 in
theorem kw_725 : (Jvm.Cond.methodLink "PuppetTheatre" (270 : Nat) ({ cls := "PuppetTheatre", name := "digestOfStates", desc := "(J)J" } : Jvm.MethodName)) ∈ lw_all := pt_all (List.mem_of_getElem? (i := 725) rfl) rfl
set_option maxRecDepth 100000 in
theorem kw_727 : (Jvm.Cond.instanceMethod ({ cls := "PuppetTheatre", name := "digestOfStates", desc := "(J)J" } : Jvm.MethodName)) ∈ lw_all := pt_all (List.mem_of_getElem? (i := 727) rfl) rfl
set_option maxRecDepth 100000 in
theorem kw_728 : (Jvm.Cond.code ({ cls := "PuppetTheatre", name := "digestOfStates", desc := "(J)J" } : Jvm.MethodName) prog_1_method_36_code (8 : Nat) (Option.some Jvm.ClassFile.FieldType.long)) ∈ lw_all := pt_all (List.mem_of_getElem? (i := 728) rfl) rfl
set_option maxRecDepth 100000 in
theorem kw_729 : (Jvm.Cond.methodLink "PuppetTheatre" (281 : Nat) ({ cls := "PuppetTheatre", name := "ofState", desc := "(II)I" } : Jvm.MethodName)) ∈ lw_all := pt_all (List.mem_of_getElem? (i := 729) rfl) rfl
set_option maxRecDepth 100000 in
theorem kw_730 : (Jvm.Cond.instanceMethod ({ cls := "PuppetTheatre", name := "ofState", desc := "(II)I" } : Jvm.MethodName)) ∈ lw_all := pt_all (List.mem_of_getElem? (i := 730) rfl) rfl
set_option maxRecDepth 100000 in
theorem kw_731 : (Jvm.Cond.selects "PuppetTheatre" ({ cls := "PuppetTheatre", name := "ofState", desc := "(II)I" } : Jvm.MethodName) ({ cls := "PuppetTheatre", name := "ofState", desc := "(II)I" } : Jvm.MethodName)) ∈ lw_all := pt_all (List.mem_of_getElem? (i := 731) rfl) rfl
set_option maxRecDepth 100000 in
theorem kw_732 : (Jvm.Cond.code ({ cls := "PuppetTheatre", name := "ofState", desc := "(II)I" } : Jvm.MethodName) prog_1_method_14_code (4 : Nat) (Option.some Jvm.ClassFile.FieldType.int)) ∈ lw_all := pt_all (List.mem_of_getElem? (i := 732) rfl) rfl
set_option maxRecDepth 100000 in
theorem kw_733 : (Jvm.Cond.methodLink "PuppetTheatre" (173 : Nat) ({ cls := "java/lang/Integer", name := "bitCount", desc := "(I)I" } : Jvm.MethodName)) ∈ lw_all := pt_all (List.mem_of_getElem? (i := 733) rfl) rfl
set_option maxRecDepth 100000 in
theorem kw_734 : (Jvm.Cond.methodLink "PuppetTheatre" (284 : Nat) ({ cls := "PuppetTheatre", name := "ageOf", desc := "(I)I" } : Jvm.MethodName)) ∈ lw_all := pt_all (List.mem_of_getElem? (i := 734) rfl) rfl
set_option maxRecDepth 100000 in
theorem kw_735 : (Jvm.Cond.instanceMethod ({ cls := "PuppetTheatre", name := "ageOf", desc := "(I)I" } : Jvm.MethodName)) ∈ lw_all := pt_all (List.mem_of_getElem? (i := 735) rfl) rfl
set_option maxRecDepth 100000 in
theorem kw_736 : (Jvm.Cond.selects "PuppetTheatre" ({ cls := "PuppetTheatre", name := "ageOf", desc := "(I)I" } : Jvm.MethodName) ({ cls := "PuppetTheatre", name := "ageOf", desc := "(I)I" } : Jvm.MethodName)) ∈ lw_all := pt_all (List.mem_of_getElem? (i := 736) rfl) rfl
set_option maxRecDepth 100000 in
theorem kw_737 : (Jvm.Cond.code ({ cls := "PuppetTheatre", name := "ageOf", desc := "(I)I" } : Jvm.MethodName) prog_1_method_19_code (2 : Nat) (Option.some Jvm.ClassFile.FieldType.int)) ∈ lw_all := pt_all (List.mem_of_getElem? (i := 737) rfl) rfl
set_option maxRecDepth 100000 in
theorem kw_738 : (Jvm.Cond.methodLink "PuppetTheatre" (92 : Nat) ({ cls := "PuppetTheatre$State", name := "isMark", desc := "()Z" } : Jvm.MethodName)) ∈ lw_all := pt_all (List.mem_of_getElem? (i := 738) rfl) rfl
set_option maxRecDepth 100000 in
theorem kw_739 : (Jvm.Cond.methodLink "PuppetTheatre" (287 : Nat) ({ cls := "PuppetTheatre", name := "record", desc := "(I)I" } : Jvm.MethodName)) ∈ lw_all := pt_all (List.mem_of_getElem? (i := 739) rfl) rfl
set_option maxRecDepth 100000 in
theorem kw_740 : (Jvm.Cond.instanceMethod ({ cls := "PuppetTheatre", name := "record", desc := "(I)I" } : Jvm.MethodName)) ∈ lw_all := pt_all (List.mem_of_getElem? (i := 740) rfl) rfl
set_option maxRecDepth 100000 in
theorem kw_741 : (Jvm.Cond.selects "PuppetTheatre" ({ cls := "PuppetTheatre", name := "record", desc := "(I)I" } : Jvm.MethodName) ({ cls := "PuppetTheatre", name := "record", desc := "(I)I" } : Jvm.MethodName)) ∈ lw_all := pt_all (List.mem_of_getElem? (i := 741) rfl) rfl
set_option maxRecDepth 100000 in
theorem kw_742 : (Jvm.Cond.code ({ cls := "PuppetTheatre", name := "record", desc := "(I)I" } : Jvm.MethodName) prog_1_method_20_code (2 : Nat) (Option.some Jvm.ClassFile.FieldType.int)) ∈ lw_all := pt_all (List.mem_of_getElem? (i := 742) rfl) rfl
set_option maxRecDepth 100000 in
theorem kw_743 : (Jvm.Cond.methodLink "PuppetTheatre" (274 : Nat) ({ cls := "PuppetTheatre", name := "variable", desc := "(I)I" } : Jvm.MethodName)) ∈ lw_all := pt_all (List.mem_of_getElem? (i := 743) rfl) rfl
set_option maxRecDepth 100000 in
theorem kw_744 : (Jvm.Cond.instanceMethod ({ cls := "PuppetTheatre", name := "variable", desc := "(I)I" } : Jvm.MethodName)) ∈ lw_all := pt_all (List.mem_of_getElem? (i := 744) rfl) rfl
set_option maxRecDepth 100000 in
theorem kw_745 : (Jvm.Cond.selects "PuppetTheatre" ({ cls := "PuppetTheatre", name := "variable", desc := "(I)I" } : Jvm.MethodName) ({ cls := "PuppetTheatre", name := "variable", desc := "(I)I" } : Jvm.MethodName)) ∈ lw_all := pt_all (List.mem_of_getElem? (i := 745) rfl) rfl
set_option maxRecDepth 100000 in
theorem kw_746 : (Jvm.Cond.code ({ cls := "PuppetTheatre", name := "variable", desc := "(I)I" } : Jvm.MethodName) prog_1_method_21_code (2 : Nat) (Option.some Jvm.ClassFile.FieldType.int)) ∈ lw_all := pt_all (List.mem_of_getElem? (i := 746) rfl) rfl
set_option maxRecDepth 100000 in
theorem kw_747 : (Jvm.Cond.methodLink "PuppetTheatre" (276 : Nat) ({ cls := "PuppetTheatre", name := "fired", desc := "(I)I" } : Jvm.MethodName)) ∈ lw_all := pt_all (List.mem_of_getElem? (i := 747) rfl) rfl
set_option maxRecDepth 100000 in
theorem kw_748 : (Jvm.Cond.methodLink "PuppetTheatre" (278 : Nat) ({ cls := "PuppetTheatre", name := "rowAt", desc := "(I)I" } : Jvm.MethodName)) ∈ lw_all := pt_all (List.mem_of_getElem? (i := 748) rfl) rfl
set_option maxRecDepth 100000 in
theorem kw_749 : (Jvm.Cond.methodLink "PuppetTheatreLaw" (9 : Nat) ({ cls := "PuppetTheatreLaw", name := "below", desc := "(II)I" } : Jvm.MethodName)) ∈ lw_all := pt_all (List.mem_of_getElem? (i := 749) rfl) rfl
set_option maxRecDepth 100000 in
theorem kw_750 : (Jvm.Cond.static ({ cls := "PuppetTheatreLaw", name := "below", desc := "(II)I" } : Jvm.MethodName)) ∈ lw_all := pt_all (List.mem_of_getElem? (i := 750) rfl) rfl
set_option maxRecDepth 100000 in
theorem kw_751 : (Jvm.Cond.code ({ cls := "PuppetTheatreLaw", name := "below", desc := "(II)I" } : Jvm.MethodName) method_2_code (2 : Nat) (Option.some Jvm.ClassFile.FieldType.int)) ∈ lw_all := pt_all (List.mem_of_getElem? (i := 751) rfl) rfl
set_option maxRecDepth 100000 in
theorem kw_752 : (Jvm.Cond.constant "PuppetTheatreLaw" (7 : Nat) (2147483647 : Int32)) ∈ lw_all := pt_all (List.mem_of_getElem? (i := 752) rfl) rfl
set_option maxRecDepth 100000 in
theorem kw_753 : (Jvm.Cond.methodLink "PuppetTheatreLaw" (17 : Nat) ({ cls := "PuppetTheatreLaw", name := "cell", desc := "([II)I" } : Jvm.MethodName)) ∈ lw_all := pt_all (List.mem_of_getElem? (i := 753) rfl) rfl
set_option maxRecDepth 100000 in
theorem kw_754 : (Jvm.Cond.static ({ cls := "PuppetTheatreLaw", name := "cell", desc := "([II)I" } : Jvm.MethodName)) ∈ lw_all := pt_all (List.mem_of_getElem? (i := 754) rfl) rfl
set_option maxRecDepth 100000 in
theorem kw_755 : (Jvm.Cond.code ({ cls := "PuppetTheatreLaw", name := "cell", desc := "([II)I" } : Jvm.MethodName) method_3_code (2 : Nat) (Option.some Jvm.ClassFile.FieldType.int)) ∈ lw_all := pt_all (List.mem_of_getElem? (i := 755) rfl) rfl
set_option maxRecDepth 100000 in
theorem kw_756 : (Jvm.Cond.constant "PuppetTheatreLaw" (8 : Nat) (790386105 : Int32)) ∈ lw_all := pt_all (List.mem_of_getElem? (i := 756) rfl) rfl
set_option maxRecDepth 100000 in
theorem kw_757 : (Jvm.Cond.methodLink "PuppetTheatreLaw" (68 : Nat) ({ cls := "PuppetTheatreLaw", name := "build", desc := "(LPuppetTheatre;[IIIII)[I" } : Jvm.MethodName)) ∈ lw_all := pt_all (List.mem_of_getElem? (i := 757) rfl) rfl
set_option maxRecDepth 100000 in
theorem kw_758 : (Jvm.Cond.static ({ cls := "PuppetTheatreLaw", name := "build", desc := "(LPuppetTheatre;[IIIII)[I" } : Jvm.MethodName)) ∈ lw_all := pt_all (List.mem_of_getElem? (i := 758) rfl) rfl
set_option maxRecDepth 100000 in
theorem kw_759 : (Jvm.Cond.code ({ cls := "PuppetTheatreLaw", name := "build", desc := "(LPuppetTheatre;[IIIII)[I" } : Jvm.MethodName) method_5_code (19 : Nat) (Option.some (Jvm.ClassFile.FieldType.array Jvm.ClassFile.FieldType.int))) ∈ lw_all := pt_all (List.mem_of_getElem? (i := 759) rfl) rfl
set_option maxRecDepth 100000 in
theorem kw_760 : (Jvm.Cond.classLink "PuppetTheatreLaw" (15 : Nat) "[I") ∈ lw_all := pt_all (List.mem_of_getElem? (i := 760) rfl) rfl
set_option maxRecDepth 100000 in
theorem kw_762 : (Jvm.Cond.methodLink "PuppetTheatreLaw" (21 : Nat) ({ cls := "PuppetTheatre", name := "addState", desc := "(II)I" } : Jvm.MethodName)) ∈ lw_all := pt_all (List.mem_of_getElem? (i := 762) rfl) rfl
set_option maxRecDepth 100000 in
theorem kw_763 : (Jvm.Cond.instanceMethod ({ cls := "PuppetTheatre", name := "addState", desc := "(II)I" } : Jvm.MethodName)) ∈ lw_all := pt_all (List.mem_of_getElem? (i := 763) rfl) rfl
set_option maxRecDepth 100000 in
theorem kw_764 : (Jvm.Cond.selects "PuppetTheatre" ({ cls := "PuppetTheatre", name := "addState", desc := "(II)I" } : Jvm.MethodName) ({ cls := "PuppetTheatre", name := "addState", desc := "(II)I" } : Jvm.MethodName)) ∈ lw_all := pt_all (List.mem_of_getElem? (i := 764) rfl) rfl
set_option maxRecDepth 100000 in
theorem kw_765 : (Jvm.Cond.code ({ cls := "PuppetTheatre", name := "addState", desc := "(II)I" } : Jvm.MethodName) prog_1_method_2_code (3 : Nat) (Option.some Jvm.ClassFile.FieldType.int)) ∈ lw_all := pt_all (List.mem_of_getElem? (i := 765) rfl) rfl
set_option maxRecDepth 100000 in
theorem kw_766 : (Jvm.Cond.methodLink "PuppetTheatre" (60 : Nat) ({ cls := "PuppetTheatre$State", name := "isHolder", desc := "()Z" } : Jvm.MethodName)) ∈ lw_all := pt_all (List.mem_of_getElem? (i := 766) rfl) rfl
set_option maxRecDepth 100000 in
theorem kw_767 : (Jvm.Cond.instanceMethod ({ cls := "PuppetTheatre$State", name := "isHolder", desc := "()Z" } : Jvm.MethodName)) ∈ lw_all := pt_all (List.mem_of_getElem? (i := 767) rfl) rfl
set_option maxRecDepth 100000 in
theorem kw_768 : (Jvm.Cond.selects "PuppetTheatre$State" ({ cls := "PuppetTheatre$State", name := "isHolder", desc := "()Z" } : Jvm.MethodName) ({ cls := "PuppetTheatre$State", name := "isHolder", desc := "()Z" } : Jvm.MethodName)) ∈ lw_all := pt_all (List.mem_of_getElem? (i := 768) rfl) rfl
set_option maxRecDepth 100000 in
theorem kw_769 : (Jvm.Cond.code ({ cls := "PuppetTheatre$State", name := "isHolder", desc := "()Z" } : Jvm.MethodName) prog_7_method_3_code (1 : Nat) (Option.some Jvm.ClassFile.FieldType.boolean)) ∈ lw_all := pt_all (List.mem_of_getElem? (i := 769) rfl) rfl
set_option maxRecDepth 100000 in
theorem kw_770 : (Jvm.Cond.methodLink "PuppetTheatre" (72 : Nat) ({ cls := "PuppetTheatre$Chart", name := "putState", desc := "(II)I" } : Jvm.MethodName)) ∈ lw_all := pt_all (List.mem_of_getElem? (i := 770) rfl) rfl
set_option maxRecDepth 100000 in
theorem kw_771 : (Jvm.Cond.instanceMethod ({ cls := "PuppetTheatre$Chart", name := "putState", desc := "(II)I" } : Jvm.MethodName)) ∈ lw_all := pt_all (List.mem_of_getElem? (i := 771) rfl) rfl
set_option maxRecDepth 100000 in
theorem kw_772 : (Jvm.Cond.selects "PuppetTheatre$Chart" ({ cls := "PuppetTheatre$Chart", name := "putState", desc := "(II)I" } : Jvm.MethodName) ({ cls := "PuppetTheatre$Chart", name := "putState", desc := "(II)I" } : Jvm.MethodName)) ∈ lw_all := pt_all (List.mem_of_getElem? (i := 772) rfl) rfl
set_option maxRecDepth 100000 in
theorem kw_773 : (Jvm.Cond.code ({ cls := "PuppetTheatre$Chart", name := "putState", desc := "(II)I" } : Jvm.MethodName) prog_3_method_2_code (6 : Nat) (Option.some Jvm.ClassFile.FieldType.int)) ∈ lw_all := pt_all (List.mem_of_getElem? (i := 773) rfl) rfl
set_option maxRecDepth 100000 in
theorem kw_774 : (Jvm.Cond.methodLink "PuppetTheatre$Chart" (53 : Nat) ({ cls := "PuppetTheatre$State", name := "isMark", desc := "()Z" } : Jvm.MethodName)) ∈ lw_all := pt_all (List.mem_of_getElem? (i := 774) rfl) rfl
set_option maxRecDepth 100000 in
theorem kw_775 : (Jvm.Cond.methodLink "PuppetTheatre$Chart" (57 : Nat) ({ cls := "PuppetTheatre$State", name := "putPart", desc := "(I)V" } : Jvm.MethodName)) ∈ lw_all := pt_all (List.mem_of_getElem? (i := 775) rfl) rfl
set_option maxRecDepth 100000 in
theorem kw_776 : (Jvm.Cond.instanceMethod ({ cls := "PuppetTheatre$State", name := "putPart", desc := "(I)V" } : Jvm.MethodName)) ∈ lw_all := pt_all (List.mem_of_getElem? (i := 776) rfl) rfl
set_option maxRecDepth 100000 in
theorem kw_777 : (Jvm.Cond.selects "PuppetTheatre$State" ({ cls := "PuppetTheatre$State", name := "putPart", desc := "(I)V" } : Jvm.MethodName) ({ cls := "PuppetTheatre$State", name := "putPart", desc := "(I)V" } : Jvm.MethodName)) ∈ lw_all := pt_all (List.mem_of_getElem? (i := 777) rfl) rfl
set_option maxRecDepth 100000 in
theorem kw_778 : (Jvm.Cond.code ({ cls := "PuppetTheatre$State", name := "putPart", desc := "(I)V" } : Jvm.MethodName) prog_7_method_5_code (2 : Nat) (Option.none : Option Jvm.ClassFile.FieldType)) ∈ lw_all := pt_all (List.mem_of_getElem? (i := 778) rfl) rfl
set_option maxRecDepth 100000 in
theorem kw_779 : (Jvm.Cond.methodLink "PuppetTheatre$State" (41 : Nat) ({ cls := "PuppetTheatre$State", name := "putFirst", desc := "(I)V" } : Jvm.MethodName)) ∈ lw_all := pt_all (List.mem_of_getElem? (i := 779) rfl) rfl
set_option maxRecDepth 100000 in
theorem kw_780 : (Jvm.Cond.instanceMethod ({ cls := "PuppetTheatre$State", name := "putFirst", desc := "(I)V" } : Jvm.MethodName)) ∈ lw_all := pt_all (List.mem_of_getElem? (i := 780) rfl) rfl
set_option maxRecDepth 100000 in
theorem kw_781 : (Jvm.Cond.selects "PuppetTheatre$State" ({ cls := "PuppetTheatre$State", name := "putFirst", desc := "(I)V" } : Jvm.MethodName) ({ cls := "PuppetTheatre$State", name := "putFirst", desc := "(I)V" } : Jvm.MethodName)) ∈ lw_all := pt_all (List.mem_of_getElem? (i := 781) rfl) rfl
set_option maxRecDepth 100000 in
theorem kw_782 : (Jvm.Cond.code ({ cls := "PuppetTheatre$State", name := "putFirst", desc := "(I)V" } : Jvm.MethodName) prog_7_method_4_code (2 : Nat) (Option.none : Option Jvm.ClassFile.FieldType)) ∈ lw_all := pt_all (List.mem_of_getElem? (i := 782) rfl) rfl
set_option maxRecDepth 100000 in
theorem kw_783 : (Jvm.Cond.methodLinkNest "PuppetTheatre$State" (31 : Nat) ({ cls := "PuppetTheatre", name := "setOf", desc := "(I)I" } : Jvm.MethodName) "PuppetTheatre") ∈ lw_all := pt_all (List.mem_of_getElem? (i := 783) rfl) rfl
set_option maxRecDepth 100000 in
theorem kw_784 : (Jvm.Cond.methodLink "PuppetTheatreLaw" (26 : Nat) ({ cls := "PuppetTheatreLaw", name := "doing", desc := "(II)[I" } : Jvm.MethodName)) ∈ lw_all := pt_all (List.mem_of_getElem? (i := 784) rfl) rfl
set_option maxRecDepth 100000 in
theorem kw_785 : (Jvm.Cond.static ({ cls := "PuppetTheatreLaw", name := "doing", desc := "(II)[I" } : Jvm.MethodName)) ∈ lw_all := pt_all (List.mem_of_getElem? (i := 785) rfl) rfl
set_option maxRecDepth 100000 in
theorem kw_786 : (Jvm.Cond.code ({ cls := "PuppetTheatreLaw", name := "doing", desc := "(II)[I" } : Jvm.MethodName) method_4_code (3 : Nat) (Option.some (Jvm.ClassFile.FieldType.array Jvm.ClassFile.FieldType.int))) ∈ lw_all := pt_all (List.mem_of_getElem? (i := 786) rfl) rfl
set_option maxRecDepth 100000 in
theorem kw_787 : (Jvm.Cond.methodLink "PuppetTheatreLaw" (30 : Nat) ({ cls := "PuppetTheatre", name := "setDoing", desc := "(IZIII)I" } : Jvm.MethodName)) ∈ lw_all := pt_all (List.mem_of_getElem? (i := 787) rfl) rfl
set_option maxRecDepth 100000 in
theorem kw_788 : (Jvm.Cond.instanceMethod ({ cls := "PuppetTheatre", name := "setDoing", desc := "(IZIII)I" } : Jvm.MethodName)) ∈ lw_all := pt_all (List.mem_of_getElem? (i := 788) rfl) rfl
set_option maxRecDepth 100000 in
theorem kw_789 : (Jvm.Cond.selects "PuppetTheatre" ({ cls := "PuppetTheatre", name := "setDoing", desc := "(IZIII)I" } : Jvm.MethodName) ({ cls := "PuppetTheatre", name := "setDoing", desc := "(IZIII)I" } : Jvm.MethodName)) ∈ lw_all := pt_all (List.mem_of_getElem? (i := 789) rfl) rfl
set_option maxRecDepth 100000 in
theorem kw_790 : (Jvm.Cond.code ({ cls := "PuppetTheatre", name := "setDoing", desc := "(IZIII)I" } : Jvm.MethodName) prog_1_method_4_code (8 : Nat) (Option.some Jvm.ClassFile.FieldType.int)) ∈ lw_all := pt_all (List.mem_of_getElem? (i := 790) rfl) rfl
set_option maxRecDepth 100000 in
theorem kw_791 : (Jvm.Cond.methodLink "PuppetTheatre" (95 : Nat) ({ cls := "PuppetTheatre", name := "isAction", desc := "(III)Z" } : Jvm.MethodName)) ∈ lw_all := pt_all (List.mem_of_getElem? (i := 791) rfl) rfl
set_option maxRecDepth 100000 in
theorem kw_792 : (Jvm.Cond.static ({ cls := "PuppetTheatre", name := "isAction", desc := "(III)Z" } : Jvm.MethodName)) ∈ lw_all := pt_all (List.mem_of_getElem? (i := 792) rfl) rfl
set_option maxRecDepth 100000 in
theorem kw_793 : (Jvm.Cond.code ({ cls := "PuppetTheatre", name := "isAction", desc := "(III)Z" } : Jvm.MethodName) prog_1_method_45_code (3 : Nat) (Option.some Jvm.ClassFile.FieldType.boolean)) ∈ lw_all := pt_all (List.mem_of_getElem? (i := 793) rfl) rfl
set_option maxRecDepth 100000 in
theorem kw_794 : (Jvm.Cond.methodLink "PuppetTheatre" (290 : Nat) ({ cls := "PuppetTheatre", name := "isNumber", desc := "(I)Z" } : Jvm.MethodName)) ∈ lw_all := pt_all (List.mem_of_getElem? (i := 794) rfl) rfl
set_option maxRecDepth 100000 in
theorem kw_795 : (Jvm.Cond.static ({ cls := "PuppetTheatre", name := "isNumber", desc := "(I)Z" } : Jvm.MethodName)) ∈ lw_all := pt_all (List.mem_of_getElem? (i := 795) rfl) rfl
set_option maxRecDepth 100000 in
theorem kw_796 : (Jvm.Cond.code ({ cls := "PuppetTheatre", name := "isNumber", desc := "(I)Z" } : Jvm.MethodName) prog_1_method_46_code (1 : Nat) (Option.some Jvm.ClassFile.FieldType.boolean)) ∈ lw_all := pt_all (List.mem_of_getElem? (i := 796) rfl) rfl
set_option maxRecDepth 100000 in
theorem kw_797 : (Jvm.Cond.methodLink "PuppetTheatre" (105 : Nat) ({ cls := "PuppetTheatre$Action", name := "become", desc := "(III)I" } : Jvm.MethodName)) ∈ lw_all := pt_all (List.mem_of_getElem? (i := 797) rfl) rfl
set_option maxRecDepth 100000 in
theorem kw_798 : (Jvm.Cond.instanceMethod ({ cls := "PuppetTheatre$Action", name := "become", desc := "(III)I" } : Jvm.MethodName)) ∈ lw_all := pt_all (List.mem_of_getElem? (i := 798) rfl) rfl
set_option maxRecDepth 100000 in
theorem kw_799 : (Jvm.Cond.selects "PuppetTheatre$Action" ({ cls := "PuppetTheatre$Action", name := "become", desc := "(III)I" } : Jvm.MethodName) ({ cls := "PuppetTheatre$Action", name := "become", desc := "(III)I" } : Jvm.MethodName)) ∈ lw_all := pt_all (List.mem_of_getElem? (i := 799) rfl) rfl
set_option maxRecDepth 100000 in
theorem kw_800 : (Jvm.Cond.code ({ cls := "PuppetTheatre$Action", name := "become", desc := "(III)I" } : Jvm.MethodName) prog_2_method_2_code (5 : Nat) (Option.some Jvm.ClassFile.FieldType.int)) ∈ lw_all := pt_all (List.mem_of_getElem? (i := 800) rfl) rfl
set_option maxRecDepth 100000 in
theorem kw_801 : (Jvm.Cond.methodLink "PuppetTheatreLaw" (34 : Nat) ({ cls := "PuppetTheatre", name := "addTransition", desc := "(IIII)I" } : Jvm.MethodName)) ∈ lw_all := pt_all (List.mem_of_getElem? (i := 801) rfl) rfl
set_option maxRecDepth 100000 in
theorem kw_802 : (Jvm.Cond.instanceMethod ({ cls := "PuppetTheatre", name := "addTransition", desc := "(IIII)I" } : Jvm.MethodName)) ∈ lw_all := pt_all (List.mem_of_getElem? (i := 802) rfl) rfl
set_option maxRecDepth 100000 in
theorem kw_803 : (Jvm.Cond.selects "PuppetTheatre" ({ cls := "PuppetTheatre", name := "addTransition", desc := "(IIII)I" } : Jvm.MethodName) ({ cls := "PuppetTheatre", name := "addTransition", desc := "(IIII)I" } : Jvm.MethodName)) ∈ lw_all := pt_all (List.mem_of_getElem? (i := 803) rfl) rfl
set_option maxRecDepth 100000 in
theorem kw_804 : (Jvm.Cond.code ({ cls := "PuppetTheatre", name := "addTransition", desc := "(IIII)I" } : Jvm.MethodName) prog_1_method_5_code (5 : Nat) (Option.some Jvm.ClassFile.FieldType.int)) ∈ lw_all := pt_all (List.mem_of_getElem? (i := 804) rfl) rfl
set_option maxRecDepth 100000 in
theorem kw_805 : (Jvm.Cond.methodLink "PuppetTheatre" (114 : Nat) ({ cls := "PuppetTheatre", name := "isTrigger", desc := "(II)Z" } : Jvm.MethodName)) ∈ lw_all := pt_all (List.mem_of_getElem? (i := 805) rfl) rfl
set_option maxRecDepth 100000 in
theorem kw_806 : (Jvm.Cond.static ({ cls := "PuppetTheatre", name := "isTrigger", desc := "(II)Z" } : Jvm.MethodName)) ∈ lw_all := pt_all (List.mem_of_getElem? (i := 806) rfl) rfl
set_option maxRecDepth 100000 in
theorem kw_807 : (Jvm.Cond.code ({ cls := "PuppetTheatre", name := "isTrigger", desc := "(II)Z" } : Jvm.MethodName) prog_1_method_43_code (2 : Nat) (Option.some Jvm.ClassFile.FieldType.boolean)) ∈ lw_all := pt_all (List.mem_of_getElem? (i := 807) rfl) rfl
set_option maxRecDepth 100000 in
theorem kw_808 : (Jvm.Cond.methodLink "PuppetTheatre" (117 : Nat) ({ cls := "PuppetTheatre$Chart", name := "putTransition", desc := "(IIII)I" } : Jvm.MethodName)) ∈ lw_all := pt_all (List.mem_of_getElem? (i := 808) rfl) rfl
set_option maxRecDepth 100000 in
theorem kw_809 : (Jvm.Cond.instanceMethod ({ cls := "PuppetTheatre$Chart", name := "putTransition", desc := "(IIII)I" } : Jvm.MethodName)) ∈ lw_all := pt_all (List.mem_of_getElem? (i := 809) rfl) rfl
set_option maxRecDepth 100000 in
theorem kw_810 : (Jvm.Cond.selects "PuppetTheatre$Chart" ({ cls := "PuppetTheatre$Chart", name := "putTransition", desc := "(IIII)I" } : Jvm.MethodName) ({ cls := "PuppetTheatre$Chart", name := "putTransition", desc := "(IIII)I" } : Jvm.MethodName)) ∈ lw_all := pt_all (List.mem_of_getElem? (i := 810) rfl) rfl
set_option maxRecDepth 100000 in
theorem kw_811 : (Jvm.Cond.code ({ cls := "PuppetTheatre$Chart", name := "putTransition", desc := "(IIII)I" } : Jvm.MethodName) prog_3_method_3_code (7 : Nat) (Option.some Jvm.ClassFile.FieldType.int)) ∈ lw_all := pt_all (List.mem_of_getElem? (i := 811) rfl) rfl
set_option maxRecDepth 100000 in
theorem kw_812 : (Jvm.Cond.methodLink "PuppetTheatre$Chart" (79 : Nat) ({ cls := "PuppetTheatre$Chart", name := "scopeOf", desc := "(II)I" } : Jvm.MethodName)) ∈ lw_all := pt_all (List.mem_of_getElem? (i := 812) rfl) rfl
set_option maxRecDepth 100000 in
theorem kw_814 : (Jvm.Cond.instanceMethod ({ cls := "PuppetTheatre$Chart", name := "scopeOf", desc := "(II)I" } : Jvm.MethodName)) ∈ lw_all := pt_all (List.mem_of_getElem? (i := 814) rfl) rfl
set_option maxRecDepth 100000 in
theorem kw_815 : (Jvm.Cond.code ({ cls := "PuppetTheatre$Chart", name := "scopeOf", desc := "(II)I" } : Jvm.MethodName) prog_3_method_5_code (5 : Nat) (Option.some Jvm.ClassFile.FieldType.int)) ∈ lw_all := pt_all (List.mem_of_getElem? (i := 815) rfl) rfl
set_option maxRecDepth 100000 in
theorem kw_816 : (Jvm.Cond.methodLink "PuppetTheatre$Chart" (89 : Nat) ({ cls := "PuppetTheatre$Chart", name := "causeOf", desc := "(II)I" } : Jvm.MethodName)) ∈ lw_all := pt_all (List.mem_of_getElem? (i := 816) rfl) rfl
set_option maxRecDepth 100000 in
theorem kw_817 : (Jvm.Cond.static ({ cls := "PuppetTheatre$Chart", name := "causeOf", desc := "(II)I" } : Jvm.MethodName)) ∈ lw_all := pt_all (List.mem_of_getElem? (i := 817) rfl) rfl
set_option maxRecDepth 100000 in
theorem kw_818 : (Jvm.Cond.code ({ cls := "PuppetTheatre$Chart", name := "causeOf", desc := "(II)I" } : Jvm.MethodName) prog_3_method_4_code (2 : Nat) (Option.some Jvm.ClassFile.FieldType.int)) ∈ lw_all := pt_all (List.mem_of_getElem? (i := 818) rfl) rfl
set_option maxRecDepth 100000 in
theorem kw_819 : (Jvm.Cond.methodLink "PuppetTheatreLaw" (38 : Nat) ({ cls := "PuppetTheatre", name := "setGuard", desc := "(IIII)I" } : Jvm.MethodName)) ∈ lw_all := pt_all (List.mem_of_getElem? (i := 819) rfl) rfl
set_option maxRecDepth 100000 in
theorem kw_820 : (Jvm.Cond.instanceMethod ({ cls := "PuppetTheatre", name := "setGuard", desc := "(IIII)I" } : Jvm.MethodName)) ∈ lw_all := pt_all (List.mem_of_getElem? (i := 820) rfl) rfl
set_option maxRecDepth 100000 in
theorem kw_821 : (Jvm.Cond.selects "PuppetTheatre" ({ cls := "PuppetTheatre", name := "setGuard", desc := "(IIII)I" } : Jvm.MethodName) ({ cls := "PuppetTheatre", name := "setGuard", desc := "(IIII)I" } : Jvm.MethodName)) ∈ lw_all := pt_all (List.mem_of_getElem? (i := 821) rfl) rfl
set_option maxRecDepth 100000 in
theorem kw_822 : (Jvm.Cond.code ({ cls := "PuppetTheatre", name := "setGuard", desc := "(IIII)I" } : Jvm.MethodName) prog_1_method_6_code (7 : Nat) (Option.some Jvm.ClassFile.FieldType.int)) ∈ lw_all := pt_all (List.mem_of_getElem? (i := 822) rfl) rfl
set_option maxRecDepth 100000 in
theorem kw_823 : (Jvm.Cond.methodLink "PuppetTheatre" (124 : Nat) ({ cls := "PuppetTheatre", name := "isGuard", desc := "(III)Z" } : Jvm.MethodName)) ∈ lw_all := pt_all (List.mem_of_getElem? (i := 823) rfl) rfl
set_option maxRecDepth 100000 in
theorem kw_824 : (Jvm.Cond.static ({ cls := "PuppetTheatre", name := "isGuard", desc := "(III)Z" } : Jvm.MethodName)) ∈ lw_all := pt_all (List.mem_of_getElem? (i := 824) rfl) rfl
set_option maxRecDepth 100000 in
theorem kw_825 : (Jvm.Cond.code ({ cls := "PuppetTheatre", name := "isGuard", desc := "(III)Z" } : Jvm.MethodName) prog_1_method_44_code (3 : Nat) (Option.some Jvm.ClassFile.FieldType.boolean)) ∈ lw_all := pt_all (List.mem_of_getElem? (i := 825) rfl) rfl
set_option maxRecDepth 100000 in
theorem kw_826 : (Jvm.Cond.methodLink "PuppetTheatreLaw" (41 : Nat) ({ cls := "PuppetTheatre", name := "setAction", desc := "(IIII)I" } : Jvm.MethodName)) ∈ lw_all := pt_all (List.mem_of_getElem? (i := 826) rfl) rfl
set_option maxRecDepth 100000 in
theorem kw_827 : (Jvm.Cond.instanceMethod ({ cls := "PuppetTheatre", name := "setAction", desc := "(IIII)I" } : Jvm.MethodName)) ∈ lw_all := pt_all (List.mem_of_getElem? (i := 827) rfl) rfl
set_option maxRecDepth 100000 in
theorem kw_828 : (Jvm.Cond.selects "PuppetTheatre" ({ cls := "PuppetTheatre", name := "setAction", desc := "(IIII)I" } : Jvm.MethodName) ({ cls := "PuppetTheatre", name := "setAction", desc := "(IIII)I" } : Jvm.MethodName)) ∈ lw_all := pt_all (List.mem_of_getElem? (i := 828) rfl) rfl
set_option maxRecDepth 100000 in
theorem kw_829 : (Jvm.Cond.code ({ cls := "PuppetTheatre", name := "setAction", desc := "(IIII)I" } : Jvm.MethodName) prog_1_method_7_code (5 : Nat) (Option.some Jvm.ClassFile.FieldType.int)) ∈ lw_all := pt_all (List.mem_of_getElem? (i := 829) rfl) rfl
set_option maxRecDepth 100000 in
theorem kw_830 : (Jvm.Cond.methodLink "PuppetTheatreLaw" (114 : Nat) ({ cls := "PuppetTheatreLaw", name := "isSound", desc := "(LPuppetTheatre;[I)Z" } : Jvm.MethodName)) ∈ lw_all := pt_all (List.mem_of_getElem? (i := 830) rfl) rfl
set_option maxRecDepth 100000 in
theorem kw_831 : (Jvm.Cond.static ({ cls := "PuppetTheatreLaw", name := "isSound", desc := "(LPuppetTheatre;[I)Z" } : Jvm.MethodName)) ∈ lw_all := pt_all (List.mem_of_getElem? (i := 831) rfl) rfl
set_option maxRecDepth 100000 in
theorem kw_832 : (Jvm.Cond.code ({ cls := "PuppetTheatreLaw", name := "isSound", desc := "(LPuppetTheatre;[I)Z" } : Jvm.MethodName) method_6_code (10 : Nat) (Option.some Jvm.ClassFile.FieldType.boolean)) ∈ lw_all := pt_all (List.mem_of_getElem? (i := 832) rfl) rfl
set_option maxRecDepth 100000 in
theorem kw_833 : (Jvm.Cond.methodLink "PuppetTheatreLaw" (48 : Nat) ({ cls := "PuppetTheatre", name := "ofState", desc := "(II)I" } : Jvm.MethodName)) ∈ lw_all := pt_all (List.mem_of_getElem? (i := 833) rfl) rfl
set_option maxRecDepth 100000 in
theorem kw_834 : (Jvm.Cond.methodLink "PuppetTheatreLaw" (51 : Nat) ({ cls := "PuppetTheatre", name := "ageOf", desc := "(I)I" } : Jvm.MethodName)) ∈ lw_all := pt_all (List.mem_of_getElem? (i := 834) rfl) rfl
set_option maxRecDepth 100000 in
theorem kw_835 : (Jvm.Cond.methodLink "PuppetTheatreLaw" (58 : Nat) ({ cls := "PuppetTheatre", name := "meanAge", desc := "()D" } : Jvm.MethodName)) ∈ lw_all := pt_all (List.mem_of_getElem? (i := 835) rfl) rfl
set_option maxRecDepth 100000 in
theorem kw_836 : (Jvm.Cond.instanceMethod ({ cls := "PuppetTheatre", name := "meanAge", desc := "()D" } : Jvm.MethodName)) ∈ lw_all := pt_all (List.mem_of_getElem? (i := 836) rfl) rfl
set_option maxRecDepth 100000 in
theorem kw_837 : (Jvm.Cond.selects "PuppetTheatre" ({ cls := "PuppetTheatre", name := "meanAge", desc := "()D" } : Jvm.MethodName) ({ cls := "PuppetTheatre", name := "meanAge", desc := "()D" } : Jvm.MethodName)) ∈ lw_all := pt_all (List.mem_of_getElem? (i := 837) rfl) rfl
set_option maxRecDepth 100000 in
theorem kw_838 : (Jvm.Cond.code ({ cls := "PuppetTheatre", name := "meanAge", desc := "()D" } : Jvm.MethodName) prog_1_method_34_code (4 : Nat) (Option.some Jvm.ClassFile.FieldType.double)) ∈ lw_all := pt_all (List.mem_of_getElem? (i := 838) rfl) rfl
set_option maxRecDepth 100000 in
theorem kw_839 : (Jvm.Cond.methodLink "PuppetTheatreLaw" (62 : Nat) ({ cls := "java/lang/Integer", name := "bitCount", desc := "(I)I" } : Jvm.MethodName)) ∈ lw_all := pt_all (List.mem_of_getElem? (i := 839) rfl) rfl
