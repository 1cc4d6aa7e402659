set_option maxRecDepth 100000 in
theorem kw_484 : (Jvm.Cond.castable "java/lang/IndexOutOfBoundsException" "java/lang/IndexOutOfBoundsException") ∈ lw_all := pt_all (List.mem_of_getElem? (i := 484) rfl) (by decide +kernel)
set_option maxRecDepth 100000 in
theorem kw_547 : (Jvm.Cond.castable "java/lang/IllegalArgumentException" "java/lang/IllegalArgumentException") ∈ lw_all := pt_all (List.mem_of_getElem? (i := 547) rfl) (by decide +kernel)
set_option maxRecDepth 100000 in
theorem kw_587 : (Jvm.Cond.codeWith ({ cls := "PuppetTheatreLaw", name := "addState", desc := "(LPuppetTheatre;II[J)I" } : Jvm.MethodName) method_3_code (5 : Nat) (Option.some Jvm.ClassFile.FieldType.int) [((0 : Nat), (10 : Nat), (13 : Nat), (13 : Nat)), ((0 : Nat), (10 : Nat), (17 : Nat), (15 : Nat)), ((0 : Nat), (10 : Nat), (21 : Nat), (17 : Nat))]) ∈ lw_all := pt_all (List.mem_of_getElem? (i := 587) rfl) (by decide +kernel)
set_option maxRecDepth 100000 in
theorem kw_588 : (Jvm.Cond.classLink "PuppetTheatreLaw" (13 : Nat) "java/lang/IllegalStateException") ∈ lw_all := pt_all (List.mem_of_getElem? (i := 588) rfl) (by decide +kernel)
set_option maxRecDepth 100000 in
theorem kw_589 : (Jvm.Cond.classLink "PuppetTheatreLaw" (15 : Nat) "java/lang/IndexOutOfBoundsException") ∈ lw_all := pt_all (List.mem_of_getElem? (i := 589) rfl) (by decide +kernel)
set_option maxRecDepth 100000 in
theorem kw_590 : (Jvm.Cond.classLink "PuppetTheatreLaw" (17 : Nat) "java/lang/IllegalArgumentException") ∈ lw_all := pt_all (List.mem_of_getElem? (i := 590) rfl) (by decide +kernel)
set_option maxRecDepth 100000 in
theorem kw_591 : (Jvm.Cond.methodLink "PuppetTheatreLaw" (7 : Nat) ({ cls := "PuppetTheatre", name := "addState", desc := "(II)I" } : Jvm.MethodName)) ∈ lw_all := pt_all (List.mem_of_getElem? (i := 591) rfl) (by decide +kernel)
set_option maxRecDepth 100000 in
theorem kw_592 : (Jvm.Cond.instanceMethod ({ cls := "PuppetTheatre", name := "addState", desc := "(II)I" } : Jvm.MethodName)) ∈ lw_all := pt_all (List.mem_of_getElem? (i := 592) rfl) (by decide +kernel)
set_option maxRecDepth 100000 in
theorem kw_593 : (Jvm.Cond.selects "PuppetTheatre" ({ cls := "PuppetTheatre", name := "addState", desc := "(II)I" } : Jvm.MethodName) ({ cls := "PuppetTheatre", name := "addState", desc := "(II)I" } : Jvm.MethodName)) ∈ lw_all := pt_all (List.mem_of_getElem? (i := 593) rfl) (by decide +kernel)
set_option maxRecDepth 100000 in
theorem kw_597 : (Jvm.Cond.castable "java/lang/IllegalStateException" "java/lang/IllegalStateException") ∈ lw_all := pt_all (List.mem_of_getElem? (i := 597) rfl) (by decide +kernel)
set_option maxRecDepth 100000 in
theorem kw_631 : (Jvm.Cond.codeWith ({ cls := "PuppetTheatreLaw", name := "setFirst", desc := "(LPuppetTheatre;II[J)I" } : Jvm.MethodName) method_4_code (5 : Nat) (Option.some Jvm.ClassFile.FieldType.int) [((0 : Nat), (10 : Nat), (13 : Nat), (13 : Nat)), ((0 : Nat), (10 : Nat), (17 : Nat), (15 : Nat)), ((0 : Nat), (10 : Nat), (21 : Nat), (17 : Nat))]) ∈ lw_all := pt_all (List.mem_of_getElem? (i := 631) rfl) (by decide +kernel)
set_option maxRecDepth 100000 in
theorem kw_632 : (Jvm.Cond.methodLink "PuppetTheatreLaw" (19 : Nat) ({ cls := "PuppetTheatre", name := "setFirst", desc := "(II)I" } : Jvm.MethodName)) ∈ lw_all := pt_all (List.mem_of_getElem? (i := 632) rfl) (by decide +kernel)
set_option maxRecDepth 100000 in
theorem kw_633 : (Jvm.Cond.instanceMethod ({ cls := "PuppetTheatre", name := "setFirst", desc := "(II)I" } : Jvm.MethodName)) ∈ lw_all := pt_all (List.mem_of_getElem? (i := 633) rfl) (by decide +kernel)
set_option maxRecDepth 100000 in
theorem kw_634 : (Jvm.Cond.selects "PuppetTheatre" ({ cls := "PuppetTheatre", name := "setFirst", desc := "(II)I" } : Jvm.MethodName) ({ cls := "PuppetTheatre", name := "setFirst", desc := "(II)I" } : Jvm.MethodName)) ∈ lw_all := pt_all (List.mem_of_getElem? (i := 634) rfl) (by decide +kernel)
set_option maxRecDepth 100000 in
theorem kw_643 : (Jvm.Cond.codeWith ({ cls := "PuppetTheatreLaw", name := "setDoing", desc := "(LPuppetTheatre;IZIII[J)I" } : Jvm.MethodName) method_5_code (8 : Nat) (Option.some Jvm.ClassFile.FieldType.int) [((0 : Nat), (16 : Nat), (19 : Nat), (13 : Nat)), ((0 : Nat), (16 : Nat), (23 : Nat), (15 : Nat)), ((0 : Nat), (16 : Nat), (27 : Nat), (17 : Nat))]) ∈ lw_all := pt_all (List.mem_of_getElem? (i := 643) rfl) (by decide +kernel)
set_option maxRecDepth 100000 in
theorem kw_644 : (Jvm.Cond.methodLink "PuppetTheatreLaw" (22 : Nat) ({ cls := "PuppetTheatre", name := "setDoing", desc := "(IZIII)I" } : Jvm.MethodName)) ∈ lw_all := pt_all (List.mem_of_getElem? (i := 644) rfl) (by decide +kernel)
set_option maxRecDepth 100000 in
theorem kw_645 : (Jvm.Cond.instanceMethod ({ cls := "PuppetTheatre", name := "setDoing", desc := "(IZIII)I" } : Jvm.MethodName)) ∈ lw_all := pt_all (List.mem_of_getElem? (i := 645) rfl) (by decide +kernel)
set_option maxRecDepth 100000 in
theorem kw_646 : (Jvm.Cond.selects "PuppetTheatre" ({ cls := "PuppetTheatre", name := "setDoing", desc := "(IZIII)I" } : Jvm.MethodName) ({ cls := "PuppetTheatre", name := "setDoing", desc := "(IZIII)I" } : Jvm.MethodName)) ∈ lw_all := pt_all (List.mem_of_getElem? (i := 646) rfl) (by decide +kernel)
set_option maxRecDepth 100000 in
theorem kw_660 : (Jvm.Cond.codeWith ({ cls := "PuppetTheatreLaw", name := "addTransition", desc := "(LPuppetTheatre;IIII[J)I" } : Jvm.MethodName) method_6_code (7 : Nat) (Option.some Jvm.ClassFile.FieldType.int) [((0 : Nat), (14 : Nat), (17 : Nat), (13 : Nat)), ((0 : Nat), (14 : Nat), (21 : Nat), (15 : Nat)), ((0 : Nat), (14 : Nat), (25 : Nat), (17 : Nat))]) ∈ lw_all := pt_all (List.mem_of_getElem? (i := 660) rfl) (by decide +kernel)
set_option maxRecDepth 100000 in
theorem kw_661 : (Jvm.Cond.methodLink "PuppetTheatreLaw" (26 : Nat) ({ cls := "PuppetTheatre", name := "addTransition", desc := "(IIII)I" } : Jvm.MethodName)) ∈ lw_all := pt_all (List.mem_of_getElem? (i := 661) rfl) (by decide +kernel)
set_option maxRecDepth 100000 in
theorem kw_662 : (Jvm.Cond.instanceMethod ({ cls := "PuppetTheatre", name := "addTransition", desc := "(IIII)I" } : Jvm.MethodName)) ∈ lw_all := pt_all (List.mem_of_getElem? (i := 662) rfl) (by decide +kernel)
set_option maxRecDepth 100000 in
theorem kw_663 : (Jvm.Cond.selects "PuppetTheatre" ({ cls := "PuppetTheatre", name := "addTransition", desc := "(IIII)I" } : Jvm.MethodName) ({ cls := "PuppetTheatre", name := "addTransition", desc := "(IIII)I" } : Jvm.MethodName)) ∈ lw_all := pt_all (List.mem_of_getElem? (i := 663) rfl) (by decide +kernel)
set_option maxRecDepth 100000 in
theorem kw_681 : (Jvm.Cond.codeWith ({ cls := "PuppetTheatreLaw", name := "setGuard", desc := "(LPuppetTheatre;IIII[J)I" } : Jvm.MethodName) method_7_code (7 : Nat) (Option.some Jvm.ClassFile.FieldType.int) [((0 : Nat), (14 : Nat), (17 : Nat), (13 : Nat)), ((0 : Nat), (14 : Nat), (21 : Nat), (15 : Nat)), ((0 : Nat), (14 : Nat), (25 : Nat), (17 : Nat))]) ∈ lw_all := pt_all (List.mem_of_getElem? (i := 681) rfl) (by decide +kernel)
set_option maxRecDepth 100000 in
theorem kw_682 : (Jvm.Cond.methodLink "PuppetTheatreLaw" (30 : Nat) ({ cls := "PuppetTheatre", name := "setGuard", desc := "(IIII)I" } : Jvm.MethodName)) ∈ lw_all := pt_all (List.mem_of_getElem? (i := 682) rfl) (by decide +kernel)
set_option maxRecDepth 100000 in
theorem kw_683 : (Jvm.Cond.instanceMethod ({ cls := "PuppetTheatre", name := "setGuard", desc := "(IIII)I" } : Jvm.MethodName)) ∈ lw_all := pt_all (List.mem_of_getElem? (i := 683) rfl) (by decide +kernel)
set_option maxRecDepth 100000 in
theorem kw_684 : (Jvm.Cond.selects "PuppetTheatre" ({ cls := "PuppetTheatre", name := "setGuard", desc := "(IIII)I" } : Jvm.MethodName) ({ cls := "PuppetTheatre", name := "setGuard", desc := "(IIII)I" } : Jvm.MethodName)) ∈ lw_all := pt_all (List.mem_of_getElem? (i := 684) rfl) (by decide +kernel)
set_option maxRecDepth 100000 in
theorem kw_691 : (Jvm.Cond.codeWith ({ cls := "PuppetTheatreLaw", name := "setAction", desc := "(LPuppetTheatre;IIII[J)I" } : Jvm.MethodName) method_8_code (7 : Nat) (Option.some Jvm.ClassFile.FieldType.int) [((0 : Nat), (14 : Nat), (17 : Nat), (13 : Nat)), ((0 : Nat), (14 : Nat), (21 : Nat), (15 : Nat)), ((0 : Nat), (14 : Nat), (25 : Nat), (17 : Nat))]) ∈ lw_all := pt_all (List.mem_of_getElem? (i := 691) rfl) (by decide +kernel)
set_option maxRecDepth 100000 in
theorem kw_692 : (Jvm.Cond.methodLink "PuppetTheatreLaw" (33 : Nat) ({ cls := "PuppetTheatre", name := "setAction", desc := "(IIII)I" } : Jvm.MethodName)) ∈ lw_all := pt_all (List.mem_of_getElem? (i := 692) rfl) (by decide +kernel)
set_option maxRecDepth 100000 in
theorem kw_693 : (Jvm.Cond.instanceMethod ({ cls := "PuppetTheatre", name := "setAction", desc := "(IIII)I" } : Jvm.MethodName)) ∈ lw_all := pt_all (List.mem_of_getElem? (i := 693) rfl) (by decide +kernel)
set_option maxRecDepth 100000 in
theorem kw_694 : (Jvm.Cond.selects "PuppetTheatre" ({ cls := "PuppetTheatre", name := "setAction", desc := "(IIII)I" } : Jvm.MethodName) ({ cls := "PuppetTheatre", name := "setAction", desc := "(IIII)I" } : Jvm.MethodName)) ∈ lw_all := pt_all (List.mem_of_getElem? (i := 694) rfl) (by decide +kernel)
set_option maxRecDepth 100000 in
theorem kw_698 : (Jvm.Cond.codeWith ({ cls := "PuppetTheatreLaw", name := "start", desc := "(LPuppetTheatre;[J)I" } : Jvm.MethodName) method_9_code (3 : Nat) (Option.some Jvm.ClassFile.FieldType.int) [((0 : Nat), (8 : Nat), (11 : Nat), (13 : Nat))]) ∈ lw_all := pt_all (List.mem_of_getElem? (i := 698) rfl) (by decide +kernel)
set_option maxRecDepth 100000 in
theorem kw_699 : (Jvm.Cond.methodLink "PuppetTheatreLaw" (36 : Nat) ({ cls := "PuppetTheatre", name := "start", desc := "()I" } : Jvm.MethodName)) ∈ lw_all := pt_all (List.mem_of_getElem? (i := 699) rfl) (by decide +kernel)
set_option maxRecDepth 100000 in
theorem kw_700 : (Jvm.Cond.instanceMethod ({ cls := "PuppetTheatre", name := "start", desc := "()I" } : Jvm.MethodName)) ∈ lw_all := pt_all (List.mem_of_getElem? (i := 700) rfl) (by decide +kernel)
set_option maxRecDepth 100000 in
theorem kw_701 : (Jvm.Cond.selects "PuppetTheatre" ({ cls := "PuppetTheatre", name := "start", desc := "()I" } : Jvm.MethodName) ({ cls := "PuppetTheatre", name := "start", desc := "()I" } : Jvm.MethodName)) ∈ lw_all := pt_all (List.mem_of_getElem? (i := 701) rfl) (by decide +kernel)
set_option maxRecDepth 100000 in
theorem kw_823 : (Jvm.Cond.codeWith ({ cls := "PuppetTheatreLaw", name := "stop", desc := "(LPuppetTheatre;[J)I" } : Jvm.MethodName) method_10_code (3 : Nat) (Option.some Jvm.ClassFile.FieldType.int) [((0 : Nat), (8 : Nat), (11 : Nat), (13 : Nat))]) ∈ lw_all := pt_all (List.mem_of_getElem? (i := 823) rfl) (by decide +kernel)
set_option maxRecDepth 100000 in
theorem kw_824 : (Jvm.Cond.methodLink "PuppetTheatreLaw" (40 : Nat) ({ cls := "PuppetTheatre", name := "stop", desc := "()I" } : Jvm.MethodName)) ∈ lw_all := pt_all (List.mem_of_getElem? (i := 824) rfl) (by decide +kernel)
set_option maxRecDepth 100000 in
theorem kw_825 : (Jvm.Cond.instanceMethod ({ cls := "PuppetTheatre", name := "stop", desc := "()I" } : Jvm.MethodName)) ∈ lw_all := pt_all (List.mem_of_getElem? (i := 825) rfl) (by decide +kernel)
set_option maxRecDepth 100000 in
theorem kw_826 : (Jvm.Cond.selects "PuppetTheatre" ({ cls := "PuppetTheatre", name := "stop", desc := "()I" } : Jvm.MethodName) ({ cls := "PuppetTheatre", name := "stop", desc := "()I" } : Jvm.MethodName)) ∈ lw_all := pt_all (List.mem_of_getElem? (i := 826) rfl) (by decide +kernel)
set_option maxRecDepth 100000 in
theorem kw_835 : (Jvm.Cond.codeWith ({ cls := "PuppetTheatreLaw", name := "send", desc := "(LPuppetTheatre;I[J)I" } : Jvm.MethodName) method_11_code (4 : Nat) (Option.some Jvm.ClassFile.FieldType.int) [((0 : Nat), (9 : Nat), (12 : Nat), (13 : Nat)), ((0 : Nat), (9 : Nat), (15 : Nat), (17 : Nat))]) ∈ lw_all := pt_all (List.mem_of_getElem? (i := 835) rfl) (by decide +kernel)
set_option maxRecDepth 100000 in
theorem kw_836 : (Jvm.Cond.methodLink "PuppetTheatreLaw" (43 : Nat) ({ cls := "PuppetTheatre", name := "send", desc := "(I)I" } : Jvm.MethodName)) ∈ lw_all := pt_all (List.mem_of_getElem? (i := 836) rfl) (by decide +kernel)
set_option maxRecDepth 100000 in
theorem kw_837 : (Jvm.Cond.instanceMethod ({ cls := "PuppetTheatre", name := "send", desc := "(I)I" } : Jvm.MethodName)) ∈ lw_all := pt_all (List.mem_of_getElem? (i := 837) rfl) (by decide +kernel)
set_option maxRecDepth 100000 in
theorem kw_838 : (Jvm.Cond.selects "PuppetTheatre" ({ cls := "PuppetTheatre", name := "send", desc := "(I)I" } : Jvm.MethodName) ({ cls := "PuppetTheatre", name := "send", desc := "(I)I" } : Jvm.MethodName)) ∈ lw_all := pt_all (List.mem_of_getElem? (i := 838) rfl) (by decide +kernel)
set_option maxRecDepth 100000 in
theorem kw_845 : (Jvm.Cond.codeWith ({ cls := "PuppetTheatreLaw", name := "tick", desc := "(LPuppetTheatre;I[J)I" } : Jvm.MethodName) method_12_code (4 : Nat) (Option.some Jvm.ClassFile.FieldType.int) [((0 : Nat), (9 : Nat), (12 : Nat), (13 : Nat)), ((0 : Nat), (9 : Nat), (15 : Nat), (17 : Nat))]) ∈ lw_all := pt_all (List.mem_of_getElem? (i := 845) rfl) (by decide +kernel)
set_option maxRecDepth 100000 in
theorem kw_846 : (Jvm.Cond.methodLink "PuppetTheatreLaw" (47 : Nat) ({ cls := "PuppetTheatre", name := "tick", desc := "(I)I" } : Jvm.MethodName)) ∈ lw_all := pt_all (List.mem_of_getElem? (i := 846) rfl) (by decide +kernel)
set_option maxRecDepth 100000 in
theorem kw_847 : (Jvm.Cond.instanceMethod ({ cls := "PuppetTheatre", name := "tick", desc := "(I)I" } : Jvm.MethodName)) ∈ lw_all := pt_all (List.mem_of_getElem? (i := 847) rfl) (by decide +kernel)
set_option maxRecDepth 100000 in
theorem kw_848 : (Jvm.Cond.selects "PuppetTheatre" ({ cls := "PuppetTheatre", name := "tick", desc := "(I)I" } : Jvm.MethodName) ({ cls := "PuppetTheatre", name := "tick", desc := "(I)I" } : Jvm.MethodName)) ∈ lw_all := pt_all (List.mem_of_getElem? (i := 848) rfl) (by decide +kernel)
set_option maxRecDepth 100000 in
theorem kw_852 : (Jvm.Cond.codeWith ({ cls := "PuppetTheatreLaw", name := "ofState", desc := "(LPuppetTheatre;II[J)I" } : Jvm.MethodName) method_13_code (5 : Nat) (Option.some Jvm.ClassFile.FieldType.int) [((0 : Nat), (10 : Nat), (13 : Nat), (15 : Nat)), ((0 : Nat), (10 : Nat), (17 : Nat), (17 : Nat))]) ∈ lw_all := pt_all (List.mem_of_getElem? (i := 852) rfl) (by decide +kernel)
set_option maxRecDepth 100000 in
theorem kw_853 : (Jvm.Cond.methodLink "PuppetTheatreLaw" (50 : Nat) ({ cls := "PuppetTheatre", name := "ofState", desc := "(II)I" } : Jvm.MethodName)) ∈ lw_all := pt_all (List.mem_of_getElem? (i := 853) rfl) (by decide +kernel)
set_option maxRecDepth 100000 in
theorem kw_856 : (Jvm.Cond.codeWith ({ cls := "PuppetTheatreLaw", name := "isEnded", desc := "(LPuppetTheatre;I[J)I" } : Jvm.MethodName) method_14_code (4 : Nat) (Option.some Jvm.ClassFile.FieldType.int) [((0 : Nat), (16 : Nat), (19 : Nat), (15 : Nat))]) ∈ lw_all := pt_all (List.mem_of_getElem? (i := 856) rfl) (by decide +kernel)
set_option maxRecDepth 100000 in
theorem kw_857 : (Jvm.Cond.methodLink "PuppetTheatreLaw" (53 : Nat) ({ cls := "PuppetTheatre", name := "isEnded", desc := "(I)Z" } : Jvm.MethodName)) ∈ lw_all := pt_all (List.mem_of_getElem? (i := 857) rfl) (by decide +kernel)
set_option maxRecDepth 100000 in
theorem kw_858 : (Jvm.Cond.instanceMethod ({ cls := "PuppetTheatre", name := "isEnded", desc := "(I)Z" } : Jvm.MethodName)) ∈ lw_all := pt_all (List.mem_of_getElem? (i := 858) rfl) (by decide +kernel)
set_option maxRecDepth 100000 in
theorem kw_859 : (Jvm.Cond.selects "PuppetTheatre" ({ cls := "PuppetTheatre", name := "isEnded", desc := "(I)Z" } : Jvm.MethodName) ({ cls := "PuppetTheatre", name := "isEnded", desc := "(I)Z" } : Jvm.MethodName)) ∈ lw_all := pt_all (List.mem_of_getElem? (i := 859) rfl) (by decide +kernel)
set_option maxRecDepth 100000 in
theorem kw_863 : (Jvm.Cond.codeWith ({ cls := "PuppetTheatreLaw", name := "ageOf", desc := "(LPuppetTheatre;I[J)I" } : Jvm.MethodName) method_15_code (4 : Nat) (Option.some Jvm.ClassFile.FieldType.int) [((0 : Nat), (9 : Nat), (12 : Nat), (15 : Nat))]) ∈ lw_all := pt_all (List.mem_of_getElem? (i := 863) rfl) (by decide +kernel)
set_option maxRecDepth 100000 in
theorem kw_864 : (Jvm.Cond.methodLink "PuppetTheatreLaw" (57 : Nat) ({ cls := "PuppetTheatre", name := "ageOf", desc := "(I)I" } : Jvm.MethodName)) ∈ lw_all := pt_all (List.mem_of_getElem? (i := 864) rfl) (by decide +kernel)
set_option maxRecDepth 100000 in
theorem kw_867 : (Jvm.Cond.codeWith ({ cls := "PuppetTheatreLaw", name := "record", desc := "(LPuppetTheatre;I[J)I" } : Jvm.MethodName) method_16_code (4 : Nat) (Option.some Jvm.ClassFile.FieldType.int) [((0 : Nat), (9 : Nat), (12 : Nat), (15 : Nat)), ((0 : Nat), (9 : Nat), (15 : Nat), (17 : Nat))]) ∈ lw_all := pt_all (List.mem_of_getElem? (i := 867) rfl) (by decide +kernel)
set_option maxRecDepth 100000 in
theorem kw_868 : (Jvm.Cond.methodLink "PuppetTheatreLaw" (60 : Nat) ({ cls := "PuppetTheatre", name := "record", desc := "(I)I" } : Jvm.MethodName)) ∈ lw_all := pt_all (List.mem_of_getElem? (i := 868) rfl) (by decide +kernel)
set_option maxRecDepth 100000 in
theorem kw_871 : (Jvm.Cond.codeWith ({ cls := "PuppetTheatreLaw", name := "variable", desc := "(LPuppetTheatre;I[J)I" } : Jvm.MethodName) method_17_code (4 : Nat) (Option.some Jvm.ClassFile.FieldType.int) [((0 : Nat), (9 : Nat), (12 : Nat), (15 : Nat))]) ∈ lw_all := pt_all (List.mem_of_getElem? (i := 871) rfl) (by decide +kernel)
set_option maxRecDepth 100000 in
theorem kw_872 : (Jvm.Cond.methodLink "PuppetTheatreLaw" (63 : Nat) ({ cls := "PuppetTheatre", name := "variable", desc := "(I)I" } : Jvm.MethodName)) ∈ lw_all := pt_all (List.mem_of_getElem? (i := 872) rfl) (by decide +kernel)
set_option maxRecDepth 100000 in
theorem kw_875 : (Jvm.Cond.codeWith ({ cls := "PuppetTheatreLaw", name := "fired", desc := "(LPuppetTheatre;I[J)I" } : Jvm.MethodName) method_18_code (4 : Nat) (Option.some Jvm.ClassFile.FieldType.int) [((0 : Nat), (9 : Nat), (12 : Nat), (15 : Nat))]) ∈ lw_all := pt_all (List.mem_of_getElem? (i := 875) rfl) (by decide +kernel)
set_option maxRecDepth 100000 in
theorem kw_876 : (Jvm.Cond.methodLink "PuppetTheatreLaw" (66 : Nat) ({ cls := "PuppetTheatre", name := "fired", desc := "(I)I" } : Jvm.MethodName)) ∈ lw_all := pt_all (List.mem_of_getElem? (i := 876) rfl) (by decide +kernel)
set_option maxRecDepth 100000 in
theorem kw_879 : (Jvm.Cond.codeWith ({ cls := "PuppetTheatreLaw", name := "wouldFire", desc := "(LPuppetTheatre;I[J)I" } : Jvm.MethodName) method_19_code (4 : Nat) (Option.some Jvm.ClassFile.FieldType.int) [((0 : Nat), (9 : Nat), (12 : Nat), (13 : Nat)), ((0 : Nat), (9 : Nat), (15 : Nat), (17 : Nat))]) ∈ lw_all := pt_all (List.mem_of_getElem? (i := 879) rfl) (by decide +kernel)
set_option maxRecDepth 100000 in
theorem kw_880 : (Jvm.Cond.methodLink "PuppetTheatreLaw" (69 : Nat) ({ cls := "PuppetTheatre", name := "wouldFire", desc := "(I)I" } : Jvm.MethodName)) ∈ lw_all := pt_all (List.mem_of_getElem? (i := 880) rfl) (by decide +kernel)
set_option maxRecDepth 100000 in
theorem kw_881 : (Jvm.Cond.instanceMethod ({ cls := "PuppetTheatre", name := "wouldFire", desc := "(I)I" } : Jvm.MethodName)) ∈ lw_all := pt_all (List.mem_of_getElem? (i := 881) rfl) (by decide +kernel)
set_option maxRecDepth 100000 in
theorem kw_882 : (Jvm.Cond.selects "PuppetTheatre" ({ cls := "PuppetTheatre", name := "wouldFire", desc := "(I)I" } : Jvm.MethodName) ({ cls := "PuppetTheatre", name := "wouldFire", desc := "(I)I" } : Jvm.MethodName)) ∈ lw_all := pt_all (List.mem_of_getElem? (i := 882) rfl) (by decide +kernel)
set_option maxRecDepth 100000 in
theorem kw_893 : (Jvm.Cond.codeWith ({ cls := "PuppetTheatreLaw", name := "wouldBe", desc := "(LPuppetTheatre;I[J)I" } : Jvm.MethodName) method_20_code (4 : Nat) (Option.some Jvm.ClassFile.FieldType.int) [((0 : Nat), (9 : Nat), (12 : Nat), (13 : Nat)), ((0 : Nat), (9 : Nat), (15 : Nat), (17 : Nat))]) ∈ lw_all := pt_all (List.mem_of_getElem? (i := 893) rfl) (by decide +kernel)
set_option maxRecDepth 100000 in
theorem kw_894 : (Jvm.Cond.methodLink "PuppetTheatreLaw" (72 : Nat) ({ cls := "PuppetTheatre", name := "wouldBe", desc := "(I)I" } : Jvm.MethodName)) ∈ lw_all := pt_all (List.mem_of_getElem? (i := 894) rfl) (by decide +kernel)
set_option maxRecDepth 100000 in
theorem kw_895 : (Jvm.Cond.instanceMethod ({ cls := "PuppetTheatre", name := "wouldBe", desc := "(I)I" } : Jvm.MethodName)) ∈ lw_all := pt_all (List.mem_of_getElem? (i := 895) rfl) (by decide +kernel)
set_option maxRecDepth 100000 in
theorem kw_896 : (Jvm.Cond.selects "PuppetTheatre" ({ cls := "PuppetTheatre", name := "wouldBe", desc := "(I)I" } : Jvm.MethodName) ({ cls := "PuppetTheatre", name := "wouldBe", desc := "(I)I" } : Jvm.MethodName)) ∈ lw_all := pt_all (List.mem_of_getElem? (i := 896) rfl) (by decide +kernel)
set_option maxRecDepth 100000 in
theorem kw_900 : (Jvm.Cond.codeWith ({ cls := "PuppetTheatreLaw", name := "open", desc := "(LPuppetTheatre;[J)I" } : Jvm.MethodName) method_21_code (3 : Nat) (Option.some Jvm.ClassFile.FieldType.int) [((0 : Nat), (8 : Nat), (11 : Nat), (13 : Nat))]) ∈ lw_all := pt_all (List.mem_of_getElem? (i := 900) rfl) (by decide +kernel)
set_option maxRecDepth 100000 in
theorem kw_901 : (Jvm.Cond.methodLink "PuppetTheatreLaw" (75 : Nat) ({ cls := "PuppetTheatre", name := "open", desc := "()I" } : Jvm.MethodName)) ∈ lw_all := pt_all (List.mem_of_getElem? (i := 901) rfl) (by decide +kernel)
set_option maxRecDepth 100000 in
theorem kw_902 : (Jvm.Cond.instanceMethod ({ cls := "PuppetTheatre", name := "open", desc := "()I" } : Jvm.MethodName)) ∈ lw_all := pt_all (List.mem_of_getElem? (i := 902) rfl) (by decide +kernel)
set_option maxRecDepth 100000 in
theorem kw_903 : (Jvm.Cond.selects "PuppetTheatre" ({ cls := "PuppetTheatre", name := "open", desc := "()I" } : Jvm.MethodName) ({ cls := "PuppetTheatre", name := "open", desc := "()I" } : Jvm.MethodName)) ∈ lw_all := pt_all (List.mem_of_getElem? (i := 903) rfl) (by decide +kernel)
set_option maxRecDepth 100000 in
theorem kw_908 : (Jvm.Cond.codeWith ({ cls := "PuppetTheatreLaw", name := "rowTo", desc := "(LPuppetTheatre;II[J)I" } : Jvm.MethodName) method_22_code (5 : Nat) (Option.some Jvm.ClassFile.FieldType.int) [((0 : Nat), (10 : Nat), (13 : Nat), (13 : Nat)), ((0 : Nat), (10 : Nat), (17 : Nat), (15 : Nat)), ((0 : Nat), (10 : Nat), (21 : Nat), (17 : Nat))]) ∈ lw_all := pt_all (List.mem_of_getElem? (i := 908) rfl) (by decide +kernel)
set_option maxRecDepth 100000 in
theorem kw_909 : (Jvm.Cond.methodLink "PuppetTheatreLaw" (78 : Nat) ({ cls := "PuppetTheatre", name := "rowTo", desc := "(II)I" } : Jvm.MethodName)) ∈ lw_all := pt_all (List.mem_of_getElem? (i := 909) rfl) (by decide +kernel)
set_option maxRecDepth 100000 in
theorem kw_910 : (Jvm.Cond.instanceMethod ({ cls := "PuppetTheatre", name := "rowTo", desc := "(II)I" } : Jvm.MethodName)) ∈ lw_all := pt_all (List.mem_of_getElem? (i := 910) rfl) (by decide +kernel)
set_option maxRecDepth 100000 in
theorem kw_911 : (Jvm.Cond.selects "PuppetTheatre" ({ cls := "PuppetTheatre", name := "rowTo", desc := "(II)I" } : Jvm.MethodName) ({ cls := "PuppetTheatre", name := "rowTo", desc := "(II)I" } : Jvm.MethodName)) ∈ lw_all := pt_all (List.mem_of_getElem? (i := 911) rfl) (by decide +kernel)
set_option maxRecDepth 100000 in
theorem kw_941 : (Jvm.Cond.codeWith ({ cls := "PuppetTheatreLaw", name := "rowFor", desc := "(LPuppetTheatre;II[J)I" } : Jvm.MethodName) method_23_code (5 : Nat) (Option.some Jvm.ClassFile.FieldType.int) [((0 : Nat), (10 : Nat), (13 : Nat), (13 : Nat)), ((0 : Nat), (10 : Nat), (17 : Nat), (15 : Nat)), ((0 : Nat), (10 : Nat), (21 : Nat), (17 : Nat))]) ∈ lw_all := pt_all (List.mem_of_getElem? (i := 941) rfl) (by decide +kernel)
set_option maxRecDepth 100000 in
theorem kw_942 : (Jvm.Cond.methodLink "PuppetTheatreLaw" (81 : Nat) ({ cls := "PuppetTheatre", name := "rowFor", desc := "(II)I" } : Jvm.MethodName)) ∈ lw_all := pt_all (List.mem_of_getElem? (i := 942) rfl) (by decide +kernel)
set_option maxRecDepth 100000 in
theorem kw_943 : (Jvm.Cond.instanceMethod ({ cls := "PuppetTheatre", name := "rowFor", desc := "(II)I" } : Jvm.MethodName)) ∈ lw_all := pt_all (List.mem_of_getElem? (i := 943) rfl) (by decide +kernel)
set_option maxRecDepth 100000 in
theorem kw_944 : (Jvm.Cond.selects "PuppetTheatre" ({ cls := "PuppetTheatre", name := "rowFor", desc := "(II)I" } : Jvm.MethodName) ({ cls := "PuppetTheatre", name := "rowFor", desc := "(II)I" } : Jvm.MethodName)) ∈ lw_all := pt_all (List.mem_of_getElem? (i := 944) rfl) (by decide +kernel)
theorem dL_addState_0 : decode cL_addState 0 = .ok (.aload_n 3, 1) := by decide +kernel
theorem dL_addState_1 : decode cL_addState 1 = .ok (.iconst 0, 1) := by decide +kernel
theorem dL_addState_2 : decode cL_addState 2 = .ok (.aload_n 0, 1) := by decide +kernel
theorem dL_addState_3 : decode cL_addState 3 = .ok (.iload_n 1, 1) := by decide +kernel
theorem dL_addState_4 : decode cL_addState 4 = .ok (.iload_n 2, 1) := by decide +kernel
theorem dL_addState_5 : decode cL_addState 5 = .ok (.invokevirtual 7, 3) := by decide +kernel
theorem dL_addState_8 : decode cL_addState 8 = .ok (.i2l, 1) := by decide +kernel
theorem dL_addState_9 : decode cL_addState 9 = .ok (.lastore, 1) := by decide +kernel
theorem dL_addState_10 : decode cL_addState 10 = .ok (.goto 15, 3) := by decide +kernel
theorem dL_addState_13 : decode cL_addState 13 = .ok (.astore 4, 2) := by decide +kernel
theorem dL_addState_15 : decode cL_addState 15 = .ok (.iconst 1, 1) := by decide +kernel
theorem dL_addState_16 : decode cL_addState 16 = .ok (.ireturn, 1) := by decide +kernel
theorem dL_addState_17 : decode cL_addState 17 = .ok (.astore 4, 2) := by decide +kernel
theorem dL_addState_19 : decode cL_addState 19 = .ok (.iconst 2, 1) := by decide +kernel
theorem dL_addState_20 : decode cL_addState 20 = .ok (.ireturn, 1) := by decide +kernel
theorem dL_addState_21 : decode cL_addState 21 = .ok (.astore 4, 2) := by decide +kernel
theorem dL_addState_23 : decode cL_addState 23 = .ok (.iconst 3, 1) := by decide +kernel
theorem dL_addState_24 : decode cL_addState 24 = .ok (.ireturn, 1) := by decide +kernel
theorem dL_addState_25 : decode cL_addState 25 = .ok (.iconst 0, 1) := by decide +kernel
theorem dL_addState_26 : decode cL_addState 26 = .ok (.ireturn, 1) := by decide +kernel
theorem dL_setFirst_0 : decode cL_setFirst 0 = .ok (.aload_n 3, 1) := by decide +kernel
theorem dL_setFirst_1 : decode cL_setFirst 1 = .ok (.iconst 0, 1) := by decide +kernel
theorem dL_setFirst_2 : decode cL_setFirst 2 = .ok (.aload_n 0, 1) := by decide +kernel
theorem dL_setFirst_3 : decode cL_setFirst 3 = .ok (.iload_n 1, 1) := by decide +kernel
theorem dL_setFirst_4 : decode cL_setFirst 4 = .ok (.iload_n 2, 1) := by decide +kernel
theorem dL_setFirst_5 : decode cL_setFirst 5 = .ok (.invokevirtual 19, 3) := by decide +kernel
theorem dL_setFirst_8 : decode cL_setFirst 8 = .ok (.i2l, 1) := by decide +kernel
theorem dL_setFirst_9 : decode cL_setFirst 9 = .ok (.lastore, 1) := by decide +kernel
theorem dL_setFirst_10 : decode cL_setFirst 10 = .ok (.goto 15, 3) := by decide +kernel
theorem dL_setFirst_13 : decode cL_setFirst 13 = .ok (.astore 4, 2) := by decide +kernel
theorem dL_setFirst_15 : decode cL_setFirst 15 = .ok (.iconst 1, 1) := by decide +kernel
theorem dL_setFirst_16 : decode cL_setFirst 16 = .ok (.ireturn, 1) := by decide +kernel
theorem dL_setFirst_17 : decode cL_setFirst 17 = .ok (.astore 4, 2) := by decide +kernel
theorem dL_setFirst_19 : decode cL_setFirst 19 = .ok (.iconst 2, 1) := by decide +kernel
theorem dL_setFirst_20 : decode cL_setFirst 20 = .ok (.ireturn, 1) := by decide +kernel
theorem dL_setFirst_21 : decode cL_setFirst 21 = .ok (.astore 4, 2) := by decide +kernel
theorem dL_setFirst_23 : decode cL_setFirst 23 = .ok (.iconst 3, 1) := by decide +kernel
theorem dL_setFirst_24 : decode cL_setFirst 24 = .ok (.ireturn, 1) := by decide +kernel
theorem dL_setFirst_25 : decode cL_setFirst 25 = .ok (.iconst 0, 1) := by decide +kernel
theorem dL_setFirst_26 : decode cL_setFirst 26 = .ok (.ireturn, 1) := by decide +kernel
theorem dL_setDoing_0 : decode cL_setDoing 0 = .ok (.aload 6, 2) := by decide +kernel
theorem dL_setDoing_2 : decode cL_setDoing 2 = .ok (.iconst 0, 1) := by decide +kernel
theorem dL_setDoing_3 : decode cL_setDoing 3 = .ok (.aload_n 0, 1) := by decide +kernel
theorem dL_setDoing_4 : decode cL_setDoing 4 = .ok (.iload_n 1, 1) := by decide +kernel
theorem dL_setDoing_5 : decode cL_setDoing 5 = .ok (.iload_n 2, 1) := by decide +kernel
theorem dL_setDoing_6 : decode cL_setDoing 6 = .ok (.iload_n 3, 1) := by decide +kernel
theorem dL_setDoing_7 : decode cL_setDoing 7 = .ok (.iload 4, 2) := by decide +kernel
theorem dL_setDoing_9 : decode cL_setDoing 9 = .ok (.iload 5, 2) := by decide +kernel
theorem dL_setDoing_11 : decode cL_setDoing 11 = .ok (.invokevirtual 22, 3) := by decide +kernel
theorem dL_setDoing_14 : decode cL_setDoing 14 = .ok (.i2l, 1) := by decide +kernel
theorem dL_setDoing_15 : decode cL_setDoing 15 = .ok (.lastore, 1) := by decide +kernel
theorem dL_setDoing_16 : decode cL_setDoing 16 = .ok (.goto 15, 3) := by decide +kernel
theorem dL_setDoing_19 : decode cL_setDoing 19 = .ok (.astore 7, 2) := by decide +kernel
theorem dL_setDoing_21 : decode cL_setDoing 21 = .ok (.iconst 1, 1) := by decide +kernel
theorem dL_setDoing_22 : decode cL_setDoing 22 = .ok (.ireturn, 1) := by decide +kernel
theorem dL_setDoing_23 : decode cL_setDoing 23 = .ok (.astore 7, 2) := by decide +kernel
theorem dL_setDoing_25 : decode cL_setDoing 25 = .ok (.iconst 2, 1) := by decide +kernel
theorem dL_setDoing_26 : decode cL_setDoing 26 = .ok (.ireturn, 1) := by decide +kernel
theorem dL_setDoing_27 : decode cL_setDoing 27 = .ok (.astore 7, 2) := by decide +kernel
theorem dL_setDoing_29 : decode cL_setDoing 29 = .ok (.iconst 3, 1) := by decide +kernel
theorem dL_setDoing_30 : decode cL_setDoing 30 = .ok (.ireturn, 1) := by decide +kernel
theorem dL_setDoing_31 : decode cL_setDoing 31 = .ok (.iconst 0, 1) := by decide +kernel
theorem dL_setDoing_32 : decode cL_setDoing 32 = .ok (.ireturn, 1) := by decide +kernel
theorem dL_addTransition_0 : decode cL_addTransition 0 = .ok (.aload 5, 2) := by decide +kernel
theorem dL_addTransition_2 : decode cL_addTransition 2 = .ok (.iconst 0, 1) := by decide +kernel
theorem dL_addTransition_3 : decode cL_addTransition 3 = .ok (.aload_n 0, 1) := by decide +kernel
theorem dL_addTransition_4 : decode cL_addTransition 4 = .ok (.iload_n 1, 1) := by decide +kernel
theorem dL_addTransition_5 : decode cL_addTransition 5 = .ok (.iload_n 2, 1) := by decide +kernel
theorem dL_addTransition_6 : decode cL_addTransition 6 = .ok (.iload_n 3, 1) := by decide +kernel
theorem dL_addTransition_7 : decode cL_addTransition 7 = .ok (.iload 4, 2) := by decide +kernel
theorem dL_addTransition_9 : decode cL_addTransition 9 = .ok (.invokevirtual 26, 3) := by decide +kernel
theorem dL_addTransition_12 : decode cL_addTransition 12 = .ok (.i2l, 1) := by decide +kernel
theorem dL_addTransition_13 : decode cL_addTransition 13 = .ok (.lastore, 1) := by decide +kernel
theorem dL_addTransition_14 : decode cL_addTransition 14 = .ok (.goto 15, 3) := by decide +kernel
theorem dL_addTransition_17 : decode cL_addTransition 17 = .ok (.astore 6, 2) := by decide +kernel
theorem dL_addTransition_19 : decode cL_addTransition 19 = .ok (.iconst 1, 1) := by decide +kernel
theorem dL_addTransition_20 : decode cL_addTransition 20 = .ok (.ireturn, 1) := by decide +kernel
theorem dL_addTransition_21 : decode cL_addTransition 21 = .ok (.astore 6, 2) := by decide +kernel
theorem dL_addTransition_23 : decode cL_addTransition 23 = .ok (.iconst 2, 1) := by decide +kernel
theorem dL_addTransition_24 : decode cL_addTransition 24 = .ok (.ireturn, 1) := by decide +kernel
theorem dL_addTransition_25 : decode cL_addTransition 25 = .ok (.astore 6, 2) := by decide +kernel
theorem dL_addTransition_27 : decode cL_addTransition 27 = .ok (.iconst 3, 1) := by decide +kernel
theorem dL_addTransition_28 : decode cL_addTransition 28 = .ok (.ireturn, 1) := by decide +kernel
theorem dL_addTransition_29 : decode cL_addTransition 29 = .ok (.iconst 0, 1) := by decide +kernel
theorem dL_addTransition_30 : decode cL_addTransition 30 = .ok (.ireturn, 1) := by decide +kernel
theorem dL_setGuard_0 : decode cL_setGuard 0 = .ok (.aload 5, 2) := by decide +kernel
theorem dL_setGuard_2 : decode cL_setGuard 2 = .ok (.iconst 0, 1) := by decide +kernel
theorem dL_setGuard_3 : decode cL_setGuard 3 = .ok (.aload_n 0, 1) := by decide +kernel
theorem dL_setGuard_4 : decode cL_setGuard 4 = .ok (.iload_n 1, 1) := by decide +kernel
theorem dL_setGuard_5 : decode cL_setGuard 5 = .ok (.iload_n 2, 1) := by decide +kernel
theorem dL_setGuard_6 : decode cL_setGuard 6 = .ok (.iload_n 3, 1) := by decide +kernel
theorem dL_setGuard_7 : decode cL_setGuard 7 = .ok (.iload 4, 2) := by decide +kernel
theorem dL_setGuard_9 : decode cL_setGuard 9 = .ok (.invokevirtual 30, 3) := by decide +kernel
theorem dL_setGuard_12 : decode cL_setGuard 12 = .ok (.i2l, 1) := by decide +kernel
theorem dL_setGuard_13 : decode cL_setGuard 13 = .ok (.lastore, 1) := by decide +kernel
theorem dL_setGuard_14 : decode cL_setGuard 14 = .ok (.goto 15, 3) := by decide +kernel
theorem dL_setGuard_17 : decode cL_setGuard 17 = .ok (.astore 6, 2) := by decide +kernel
theorem dL_setGuard_19 : decode cL_setGuard 19 = .ok (.iconst 1, 1) := by decide +kernel
theorem dL_setGuard_20 : decode cL_setGuard 20 = .ok (.ireturn, 1) := by decide +kernel
theorem dL_setGuard_21 : decode cL_setGuard 21 = .ok (.astore 6, 2) := by decide +kernel
theorem dL_setGuard_23 : decode cL_setGuard 23 = .ok (.iconst 2, 1) := by decide +kernel
theorem dL_setGuard_24 : decode cL_setGuard 24 = .ok (.ireturn, 1) := by decide +kernel
theorem dL_setGuard_25 : decode cL_setGuard 25 = .ok (.astore 6, 2) := by decide +kernel
theorem dL_setGuard_27 : decode cL_setGuard 27 = .ok (.iconst 3, 1) := by decide +kernel
theorem dL_setGuard_28 : decode cL_setGuard 28 = .ok (.ireturn, 1) := by decide +kernel
theorem dL_setGuard_29 : decode cL_setGuard 29 = .ok (.iconst 0, 1) := by decide +kernel
theorem dL_setGuard_30 : decode cL_setGuard 30 = .ok (.ireturn, 1) := by decide +kernel
theorem dL_setAction_0 : decode cL_setAction 0 = .ok (.aload 5, 2) := by decide +kernel
theorem dL_setAction_2 : decode cL_setAction 2 = .ok (.iconst 0, 1) := by decide +kernel
theorem dL_setAction_3 : decode cL_setAction 3 = .ok (.aload_n 0, 1) := by decide +kernel
theorem dL_setAction_4 : decode cL_setAction 4 = .ok (.iload_n 1, 1) := by decide +kernel
theorem dL_setAction_5 : decode cL_setAction 5 = .ok (.iload_n 2, 1) := by decide +kernel
theorem dL_setAction_6 : decode cL_setAction 6 = .ok (.iload_n 3, 1) := by decide +kernel
theorem dL_setAction_7 : decode cL_setAction 7 = .ok (.iload 4, 2) := by decide +kernel
theorem dL_setAction_9 : decode cL_setAction 9 = .ok (.invokevirtual 33, 3) := by decide +kernel
theorem dL_setAction_12 : decode cL_setAction 12 = .ok (.i2l, 1) := by decide +kernel
theorem dL_setAction_13 : decode cL_setAction 13 = .ok (.lastore, 1) := by decide +kernel
theorem dL_setAction_14 : decode cL_setAction 14 = .ok (.goto 15, 3) := by decide +kernel
theorem dL_setAction_17 : decode cL_setAction 17 = .ok (.astore 6, 2) := by decide +kernel
theorem dL_setAction_19 : decode cL_setAction 19 = .ok (.iconst 1, 1) := by decide +kernel
theorem dL_setAction_20 : decode cL_setAction 20 = .ok (.ireturn, 1) := by decide +kernel
theorem dL_setAction_21 : decode cL_setAction 21 = .ok (.astore 6, 2) := by decide +kernel
theorem dL_setAction_23 : decode cL_setAction 23 = .ok (.iconst 2, 1) := by decide +kernel
theorem dL_setAction_24 : decode cL_setAction 24 = .ok (.ireturn, 1) := by decide +kernel
theorem dL_setAction_25 : decode cL_setAction 25 = .ok (.astore 6, 2) := by decide +kernel
theorem dL_setAction_27 : decode cL_setAction 27 = .ok (.iconst 3, 1) := by decide +kernel
theorem dL_setAction_28 : decode cL_setAction 28 = .ok (.ireturn, 1) := by decide +kernel
theorem dL_setAction_29 : decode cL_setAction 29 = .ok (.iconst 0, 1) := by decide +kernel
theorem dL_setAction_30 : decode cL_setAction 30 = .ok (.ireturn, 1) := by decide +kernel
theorem dL_start_0 : decode cL_start 0 = .ok (.aload_n 1, 1) := by decide +kernel
theorem dL_start_1 : decode cL_start 1 = .ok (.iconst 0, 1) := by decide +kernel
theorem dL_start_2 : decode cL_start 2 = .ok (.aload_n 0, 1) := by decide +kernel
theorem dL_start_3 : decode cL_start 3 = .ok (.invokevirtual 36, 3) := by decide +kernel
theorem dL_start_6 : decode cL_start 6 = .ok (.i2l, 1) := by decide +kernel
theorem dL_start_7 : decode cL_start 7 = .ok (.lastore, 1) := by decide +kernel
theorem dL_start_8 : decode cL_start 8 = .ok (.goto 6, 3) := by decide +kernel
theorem dL_start_11 : decode cL_start 11 = .ok (.astore_n 2, 1) := by decide +kernel
theorem dL_start_12 : decode cL_start 12 = .ok (.iconst 1, 1) := by decide +kernel
theorem dL_start_13 : decode cL_start 13 = .ok (.ireturn, 1) := by decide +kernel
theorem dL_start_14 : decode cL_start 14 = .ok (.iconst 0, 1) := by decide +kernel
theorem dL_start_15 : decode cL_start 15 = .ok (.ireturn, 1) := by decide +kernel
theorem dL_stop_0 : decode cL_stop 0 = .ok (.aload_n 1, 1) := by decide +kernel
theorem dL_stop_1 : decode cL_stop 1 = .ok (.iconst 0, 1) := by decide +kernel
theorem dL_stop_2 : decode cL_stop 2 = .ok (.aload_n 0, 1) := by decide +kernel
theorem dL_stop_3 : decode cL_stop 3 = .ok (.invokevirtual 40, 3) := by decide +kernel
theorem dL_stop_6 : decode cL_stop 6 = .ok (.i2l, 1) := by decide +kernel
theorem dL_stop_7 : decode cL_stop 7 = .ok (.lastore, 1) := by decide +kernel
theorem dL_stop_8 : decode cL_stop 8 = .ok (.goto 6, 3) := by decide +kernel
theorem dL_stop_11 : decode cL_stop 11 = .ok (.astore_n 2, 1) := by decide +kernel
theorem dL_stop_12 : decode cL_stop 12 = .ok (.iconst 1, 1) := by decide +kernel
theorem dL_stop_13 : decode cL_stop 13 = .ok (.ireturn, 1) := by decide +kernel
theorem dL_stop_14 : decode cL_stop 14 = .ok (.iconst 0, 1) := by decide +kernel
theorem dL_stop_15 : decode cL_stop 15 = .ok (.ireturn, 1) := by decide +kernel
theorem dL_send_0 : decode cL_send 0 = .ok (.aload_n 2, 1) := by decide +kernel
theorem dL_send_1 : decode cL_send 1 = .ok (.iconst 0, 1) := by decide +kernel
theorem dL_send_2 : decode cL_send 2 = .ok (.aload_n 0, 1) := by decide +kernel
theorem dL_send_3 : decode cL_send 3 = .ok (.iload_n 1, 1) := by decide +kernel
theorem dL_send_4 : decode cL_send 4 = .ok (.invokevirtual 43, 3) := by decide +kernel
theorem dL_send_7 : decode cL_send 7 = .ok (.i2l, 1) := by decide +kernel
theorem dL_send_8 : decode cL_send 8 = .ok (.lastore, 1) := by decide +kernel
theorem dL_send_9 : decode cL_send 9 = .ok (.goto 9, 3) := by decide +kernel
theorem dL_send_12 : decode cL_send 12 = .ok (.astore_n 3, 1) := by decide +kernel
theorem dL_send_13 : decode cL_send 13 = .ok (.iconst 1, 1) := by decide +kernel
theorem dL_send_14 : decode cL_send 14 = .ok (.ireturn, 1) := by decide +kernel
theorem dL_send_15 : decode cL_send 15 = .ok (.astore_n 3, 1) := by decide +kernel
theorem dL_send_16 : decode cL_send 16 = .ok (.iconst 2, 1) := by decide +kernel
theorem dL_send_17 : decode cL_send 17 = .ok (.ireturn, 1) := by decide +kernel
theorem dL_send_18 : decode cL_send 18 = .ok (.iconst 0, 1) := by decide +kernel
theorem dL_send_19 : decode cL_send 19 = .ok (.ireturn, 1) := by decide +kernel
theorem dL_tick_0 : decode cL_tick 0 = .ok (.aload_n 2, 1) := by decide +kernel
theorem dL_tick_1 : decode cL_tick 1 = .ok (.iconst 0, 1) := by decide +kernel
theorem dL_tick_2 : decode cL_tick 2 = .ok (.aload_n 0, 1) := by decide +kernel
theorem dL_tick_3 : decode cL_tick 3 = .ok (.iload_n 1, 1) := by decide +kernel
theorem dL_tick_4 : decode cL_tick 4 = .ok (.invokevirtual 47, 3) := by decide +kernel
theorem dL_tick_7 : decode cL_tick 7 = .ok (.i2l, 1) := by decide +kernel
theorem dL_tick_8 : decode cL_tick 8 = .ok (.lastore, 1) := by decide +kernel
theorem dL_tick_9 : decode cL_tick 9 = .ok (.goto 9, 3) := by decide +kernel
theorem dL_tick_12 : decode cL_tick 12 = .ok (.astore_n 3, 1) := by decide +kernel
theorem dL_tick_13 : decode cL_tick 13 = .ok (.iconst 1, 1) := by decide +kernel
theorem dL_tick_14 : decode cL_tick 14 = .ok (.ireturn, 1) := by decide +kernel
theorem dL_tick_15 : decode cL_tick 15 = .ok (.astore_n 3, 1) := by decide +kernel
theorem dL_tick_16 : decode cL_tick 16 = .ok (.iconst 2, 1) := by decide +kernel
theorem dL_tick_17 : decode cL_tick 17 = .ok (.ireturn, 1) := by decide +kernel
theorem dL_tick_18 : decode cL_tick 18 = .ok (.iconst 0, 1) := by decide +kernel
theorem dL_tick_19 : decode cL_tick 19 = .ok (.ireturn, 1) := by decide +kernel
theorem dL_ofState_0 : decode cL_ofState 0 = .ok (.aload_n 3, 1) := by decide +kernel
theorem dL_ofState_1 : decode cL_ofState 1 = .ok (.iconst 0, 1) := by decide +kernel
theorem dL_ofState_2 : decode cL_ofState 2 = .ok (.aload_n 0, 1) := by decide +kernel
theorem dL_ofState_3 : decode cL_ofState 3 = .ok (.iload_n 1, 1) := by decide +kernel
theorem dL_ofState_4 : decode cL_ofState 4 = .ok (.iload_n 2, 1) := by decide +kernel
theorem dL_ofState_5 : decode cL_ofState 5 = .ok (.invokevirtual 50, 3) := by decide +kernel
theorem dL_ofState_8 : decode cL_ofState 8 = .ok (.i2l, 1) := by decide +kernel
theorem dL_ofState_9 : decode cL_ofState 9 = .ok (.lastore, 1) := by decide +kernel
theorem dL_ofState_10 : decode cL_ofState 10 = .ok (.goto 11, 3) := by decide +kernel
theorem dL_ofState_13 : decode cL_ofState 13 = .ok (.astore 4, 2) := by decide +kernel
theorem dL_ofState_15 : decode cL_ofState 15 = .ok (.iconst 1, 1) := by decide +kernel
theorem dL_ofState_16 : decode cL_ofState 16 = .ok (.ireturn, 1) := by decide +kernel
theorem dL_ofState_17 : decode cL_ofState 17 = .ok (.astore 4, 2) := by decide +kernel
theorem dL_ofState_19 : decode cL_ofState 19 = .ok (.iconst 2, 1) := by decide +kernel
theorem dL_ofState_20 : decode cL_ofState 20 = .ok (.ireturn, 1) := by decide +kernel
theorem dL_ofState_21 : decode cL_ofState 21 = .ok (.iconst 0, 1) := by decide +kernel
theorem dL_ofState_22 : decode cL_ofState 22 = .ok (.ireturn, 1) := by decide +kernel
theorem dL_isEnded_0 : decode cL_isEnded 0 = .ok (.aload_n 2, 1) := by decide +kernel
theorem dL_isEnded_1 : decode cL_isEnded 1 = .ok (.iconst 0, 1) := by decide +kernel
theorem dL_isEnded_2 : decode cL_isEnded 2 = .ok (.aload_n 0, 1) := by decide +kernel
theorem dL_isEnded_3 : decode cL_isEnded 3 = .ok (.iload_n 1, 1) := by decide +kernel
theorem dL_isEnded_4 : decode cL_isEnded 4 = .ok (.invokevirtual 53, 3) := by decide +kernel
theorem dL_isEnded_7 : decode cL_isEnded 7 = .ok (.ifCond .eq 7, 3) := by decide +kernel
theorem dL_isEnded_10 : decode cL_isEnded 10 = .ok (.lconst 1, 1) := by decide +kernel
theorem dL_isEnded_11 : decode cL_isEnded 11 = .ok (.goto 4, 3) := by decide +kernel
theorem dL_isEnded_14 : decode cL_isEnded 14 = .ok (.lconst 0, 1) := by decide +kernel
theorem dL_isEnded_15 : decode cL_isEnded 15 = .ok (.lastore, 1) := by decide +kernel
theorem dL_isEnded_16 : decode cL_isEnded 16 = .ok (.goto 6, 3) := by decide +kernel
theorem dL_isEnded_19 : decode cL_isEnded 19 = .ok (.astore_n 3, 1) := by decide +kernel
theorem dL_isEnded_20 : decode cL_isEnded 20 = .ok (.iconst 1, 1) := by decide +kernel
theorem dL_isEnded_21 : decode cL_isEnded 21 = .ok (.ireturn, 1) := by decide +kernel
theorem dL_isEnded_22 : decode cL_isEnded 22 = .ok (.iconst 0, 1) := by decide +kernel
theorem dL_isEnded_23 : decode cL_isEnded 23 = .ok (.ireturn, 1) := by decide +kernel
theorem dL_ageOf_0 : decode cL_ageOf 0 = .ok (.aload_n 2, 1) := by decide +kernel
theorem dL_ageOf_1 : decode cL_ageOf 1 = .ok (.iconst 0, 1) := by decide +kernel
theorem dL_ageOf_2 : decode cL_ageOf 2 = .ok (.aload_n 0, 1) := by decide +kernel
theorem dL_ageOf_3 : decode cL_ageOf 3 = .ok (.iload_n 1, 1) := by decide +kernel
theorem dL_ageOf_4 : decode cL_ageOf 4 = .ok (.invokevirtual 57, 3) := by decide +kernel
theorem dL_ageOf_7 : decode cL_ageOf 7 = .ok (.i2l, 1) := by decide +kernel
theorem dL_ageOf_8 : decode cL_ageOf 8 = .ok (.lastore, 1) := by decide +kernel
theorem dL_ageOf_9 : decode cL_ageOf 9 = .ok (.goto 6, 3) := by decide +kernel
theorem dL_ageOf_12 : decode cL_ageOf 12 = .ok (.astore_n 3, 1) := by decide +kernel
theorem dL_ageOf_13 : decode cL_ageOf 13 = .ok (.iconst 1, 1) := by decide +kernel
theorem dL_ageOf_14 : decode cL_ageOf 14 = .ok (.ireturn, 1) := by decide +kernel
theorem dL_ageOf_15 : decode cL_ageOf 15 = .ok (.iconst 0, 1) := by decide +kernel
theorem dL_ageOf_16 : decode cL_ageOf 16 = .ok (.ireturn, 1) := by decide +kernel
theorem dL_record_0 : decode cL_record 0 = .ok (.aload_n 2, 1) := by decide +kernel
theorem dL_record_1 : decode cL_record 1 = .ok (.iconst 0, 1) := by decide +kernel
theorem dL_record_2 : decode cL_record 2 = .ok (.aload_n 0, 1) := by decide +kernel
theorem dL_record_3 : decode cL_record 3 = .ok (.iload_n 1, 1) := by decide +kernel
theorem dL_record_4 : decode cL_record 4 = .ok (.invokevirtual 60, 3) := by decide +kernel
theorem dL_record_7 : decode cL_record 7 = .ok (.i2l, 1) := by decide +kernel
theorem dL_record_8 : decode cL_record 8 = .ok (.lastore, 1) := by decide +kernel
theorem dL_record_9 : decode cL_record 9 = .ok (.goto 9, 3) := by decide +kernel
theorem dL_record_12 : decode cL_record 12 = .ok (.astore_n 3, 1) := by decide +kernel
theorem dL_record_13 : decode cL_record 13 = .ok (.iconst 1, 1) := by decide +kernel
theorem dL_record_14 : decode cL_record 14 = .ok (.ireturn, 1) := by decide +kernel
theorem dL_record_15 : decode cL_record 15 = .ok (.astore_n 3, 1) := by decide +kernel
theorem dL_record_16 : decode cL_record 16 = .ok (.iconst 2, 1) := by decide +kernel
theorem dL_record_17 : decode cL_record 17 = .ok (.ireturn, 1) := by decide +kernel
theorem dL_record_18 : decode cL_record 18 = .ok (.iconst 0, 1) := by decide +kernel
theorem dL_record_19 : decode cL_record 19 = .ok (.ireturn, 1) := by decide +kernel
theorem dL_variable_0 : decode cL_variable 0 = .ok (.aload_n 2, 1) := by decide +kernel
theorem dL_variable_1 : decode cL_variable 1 = .ok (.iconst 0, 1) := by decide +kernel
theorem dL_variable_2 : decode cL_variable 2 = .ok (.aload_n 0, 1) := by decide +kernel
theorem dL_variable_3 : decode cL_variable 3 = .ok (.iload_n 1, 1) := by decide +kernel
theorem dL_variable_4 : decode cL_variable 4 = .ok (.invokevirtual 63, 3) := by decide +kernel
theorem dL_variable_7 : decode cL_variable 7 = .ok (.i2l, 1) := by decide +kernel
theorem dL_variable_8 : decode cL_variable 8 = .ok (.lastore, 1) := by decide +kernel
theorem dL_variable_9 : decode cL_variable 9 = .ok (.goto 6, 3) := by decide +kernel
theorem dL_variable_12 : decode cL_variable 12 = .ok (.astore_n 3, 1) := by decide +kernel
theorem dL_variable_13 : decode cL_variable 13 = .ok (.iconst 1, 1) := by decide +kernel
theorem dL_variable_14 : decode cL_variable 14 = .ok (.ireturn, 1) := by decide +kernel
theorem dL_variable_15 : decode cL_variable 15 = .ok (.iconst 0, 1) := by decide +kernel
theorem dL_variable_16 : decode cL_variable 16 = .ok (.ireturn, 1) := by decide +kernel
theorem dL_fired_0 : decode cL_fired 0 = .ok (.aload_n 2, 1) := by decide +kernel
theorem dL_fired_1 : decode cL_fired 1 = .ok (.iconst 0, 1) := by decide +kernel
theorem dL_fired_2 : decode cL_fired 2 = .ok (.aload_n 0, 1) := by decide +kernel
theorem dL_fired_3 : decode cL_fired 3 = .ok (.iload_n 1, 1) := by decide +kernel
theorem dL_fired_4 : decode cL_fired 4 = .ok (.invokevirtual 66, 3) := by decide +kernel
theorem dL_fired_7 : decode cL_fired 7 = .ok (.i2l, 1) := by decide +kernel
theorem dL_fired_8 : decode cL_fired 8 = .ok (.lastore, 1) := by decide +kernel
theorem dL_fired_9 : decode cL_fired 9 = .ok (.goto 6, 3) := by decide +kernel
theorem dL_fired_12 : decode cL_fired 12 = .ok (.astore_n 3, 1) := by decide +kernel
theorem dL_fired_13 : decode cL_fired 13 = .ok (.iconst 1, 1) := by decide +kernel
theorem dL_fired_14 : decode cL_fired 14 = .ok (.ireturn, 1) := by decide +kernel
theorem dL_fired_15 : decode cL_fired 15 = .ok (.iconst 0, 1) := by decide +kernel
theorem dL_fired_16 : decode cL_fired 16 = .ok (.ireturn, 1) := by decide +kernel
theorem dL_wouldFire_0 : decode cL_wouldFire 0 = .ok (.aload_n 2, 1) := by decide +kernel
theorem dL_wouldFire_1 : decode cL_wouldFire 1 = .ok (.iconst 0, 1) := by decide +kernel
theorem dL_wouldFire_2 : decode cL_wouldFire 2 = .ok (.aload_n 0, 1) := by decide +kernel
theorem dL_wouldFire_3 : decode cL_wouldFire 3 = .ok (.iload_n 1, 1) := by decide +kernel
theorem dL_wouldFire_4 : decode cL_wouldFire 4 = .ok (.invokevirtual 69, 3) := by decide +kernel
theorem dL_wouldFire_7 : decode cL_wouldFire 7 = .ok (.i2l, 1) := by decide +kernel
theorem dL_wouldFire_8 : decode cL_wouldFire 8 = .ok (.lastore, 1) := by decide +kernel
theorem dL_wouldFire_9 : decode cL_wouldFire 9 = .ok (.goto 9, 3) := by decide +kernel
theorem dL_wouldFire_12 : decode cL_wouldFire 12 = .ok (.astore_n 3, 1) := by decide +kernel
theorem dL_wouldFire_13 : decode cL_wouldFire 13 = .ok (.iconst 1, 1) := by decide +kernel
theorem dL_wouldFire_14 : decode cL_wouldFire 14 = .ok (.ireturn, 1) := by decide +kernel
theorem dL_wouldFire_15 : decode cL_wouldFire 15 = .ok (.astore_n 3, 1) := by decide +kernel
theorem dL_wouldFire_16 : decode cL_wouldFire 16 = .ok (.iconst 2, 1) := by decide +kernel
theorem dL_wouldFire_17 : decode cL_wouldFire 17 = .ok (.ireturn, 1) := by decide +kernel
theorem dL_wouldFire_18 : decode cL_wouldFire 18 = .ok (.iconst 0, 1) := by decide +kernel
theorem dL_wouldFire_19 : decode cL_wouldFire 19 = .ok (.ireturn, 1) := by decide +kernel
theorem dL_wouldBe_0 : decode cL_wouldBe 0 = .ok (.aload_n 2, 1) := by decide +kernel
theorem dL_wouldBe_1 : decode cL_wouldBe 1 = .ok (.iconst 0, 1) := by decide +kernel
theorem dL_wouldBe_2 : decode cL_wouldBe 2 = .ok (.aload_n 0, 1) := by decide +kernel
theorem dL_wouldBe_3 : decode cL_wouldBe 3 = .ok (.iload_n 1, 1) := by decide +kernel
theorem dL_wouldBe_4 : decode cL_wouldBe 4 = .ok (.invokevirtual 72, 3) := by decide +kernel
theorem dL_wouldBe_7 : decode cL_wouldBe 7 = .ok (.i2l, 1) := by decide +kernel
theorem dL_wouldBe_8 : decode cL_wouldBe 8 = .ok (.lastore, 1) := by decide +kernel
theorem dL_wouldBe_9 : decode cL_wouldBe 9 = .ok (.goto 9, 3) := by decide +kernel
theorem dL_wouldBe_12 : decode cL_wouldBe 12 = .ok (.astore_n 3, 1) := by decide +kernel
theorem dL_wouldBe_13 : decode cL_wouldBe 13 = .ok (.iconst 1, 1) := by decide +kernel
theorem dL_wouldBe_14 : decode cL_wouldBe 14 = .ok (.ireturn, 1) := by decide +kernel
theorem dL_wouldBe_15 : decode cL_wouldBe 15 = .ok (.astore_n 3, 1) := by decide +kernel
theorem dL_wouldBe_16 : decode cL_wouldBe 16 = .ok (.iconst 2, 1) := by decide +kernel
theorem dL_wouldBe_17 : decode cL_wouldBe 17 = .ok (.ireturn, 1) := by decide +kernel
theorem dL_wouldBe_18 : decode cL_wouldBe 18 = .ok (.iconst 0, 1) := by decide +kernel
theorem dL_wouldBe_19 : decode cL_wouldBe 19 = .ok (.ireturn, 1) := by decide +kernel
theorem dL_open_0 : decode cL_open 0 = .ok (.aload_n 1, 1) := by decide +kernel
theorem dL_open_1 : decode cL_open 1 = .ok (.iconst 0, 1) := by decide +kernel
theorem dL_open_2 : decode cL_open 2 = .ok (.aload_n 0, 1) := by decide +kernel
theorem dL_open_3 : decode cL_open 3 = .ok (.invokevirtual 75, 3) := by decide +kernel
theorem dL_open_6 : decode cL_open 6 = .ok (.i2l, 1) := by decide +kernel
theorem dL_open_7 : decode cL_open 7 = .ok (.lastore, 1) := by decide +kernel
theorem dL_open_8 : decode cL_open 8 = .ok (.goto 6, 3) := by decide +kernel
theorem dL_open_11 : decode cL_open 11 = .ok (.astore_n 2, 1) := by decide +kernel
theorem dL_open_12 : decode cL_open 12 = .ok (.iconst 1, 1) := by decide +kernel
theorem dL_open_13 : decode cL_open 13 = .ok (.ireturn, 1) := by decide +kernel
theorem dL_open_14 : decode cL_open 14 = .ok (.iconst 0, 1) := by decide +kernel
theorem dL_open_15 : decode cL_open 15 = .ok (.ireturn, 1) := by decide +kernel
theorem dL_rowTo_0 : decode cL_rowTo 0 = .ok (.aload_n 3, 1) := by decide +kernel
theorem dL_rowTo_1 : decode cL_rowTo 1 = .ok (.iconst 0, 1) := by decide +kernel
theorem dL_rowTo_2 : decode cL_rowTo 2 = .ok (.aload_n 0, 1) := by decide +kernel
theorem dL_rowTo_3 : decode cL_rowTo 3 = .ok (.iload_n 1, 1) := by decide +kernel
theorem dL_rowTo_4 : decode cL_rowTo 4 = .ok (.iload_n 2, 1) := by decide +kernel
theorem dL_rowTo_5 : decode cL_rowTo 5 = .ok (.invokevirtual 78, 3) := by decide +kernel
theorem dL_rowTo_8 : decode cL_rowTo 8 = .ok (.i2l, 1) := by decide +kernel
theorem dL_rowTo_9 : decode cL_rowTo 9 = .ok (.lastore, 1) := by decide +kernel
theorem dL_rowTo_10 : decode cL_rowTo 10 = .ok (.goto 15, 3) := by decide +kernel
theorem dL_rowTo_13 : decode cL_rowTo 13 = .ok (.astore 4, 2) := by decide +kernel
theorem dL_rowTo_15 : decode cL_rowTo 15 = .ok (.iconst 1, 1) := by decide +kernel
theorem dL_rowTo_16 : decode cL_rowTo 16 = .ok (.ireturn, 1) := by decide +kernel
theorem dL_rowTo_17 : decode cL_rowTo 17 = .ok (.astore 4, 2) := by decide +kernel
theorem dL_rowTo_19 : decode cL_rowTo 19 = .ok (.iconst 2, 1) := by decide +kernel
theorem dL_rowTo_20 : decode cL_rowTo 20 = .ok (.ireturn, 1) := by decide +kernel
theorem dL_rowTo_21 : decode cL_rowTo 21 = .ok (.astore 4, 2) := by decide +kernel
theorem dL_rowTo_23 : decode cL_rowTo 23 = .ok (.iconst 3, 1) := by decide +kernel
theorem dL_rowTo_24 : decode cL_rowTo 24 = .ok (.ireturn, 1) := by decide +kernel
theorem dL_rowTo_25 : decode cL_rowTo 25 = .ok (.iconst 0, 1) := by decide +kernel
theorem dL_rowTo_26 : decode cL_rowTo 26 = .ok (.ireturn, 1) := by decide +kernel
theorem dL_rowFor_0 : decode cL_rowFor 0 = .ok (.aload_n 3, 1) := by decide +kernel
theorem dL_rowFor_1 : decode cL_rowFor 1 = .ok (.iconst 0, 1) := by decide +kernel
theorem dL_rowFor_2 : decode cL_rowFor 2 = .ok (.aload_n 0, 1) := by decide +kernel
theorem dL_rowFor_3 : decode cL_rowFor 3 = .ok (.iload_n 1, 1) := by decide +kernel
theorem dL_rowFor_4 : decode cL_rowFor 4 = .ok (.iload_n 2, 1) := by decide +kernel
theorem dL_rowFor_5 : decode cL_rowFor 5 = .ok (.invokevirtual 81, 3) := by decide +kernel
theorem dL_rowFor_8 : decode cL_rowFor 8 = .ok (.i2l, 1) := by decide +kernel
theorem dL_rowFor_9 : decode cL_rowFor 9 = .ok (.lastore, 1) := by decide +kernel
theorem dL_rowFor_10 : decode cL_rowFor 10 = .ok (.goto 15, 3) := by decide +kernel
theorem dL_rowFor_13 : decode cL_rowFor 13 = .ok (.astore 4, 2) := by decide +kernel
theorem dL_rowFor_15 : decode cL_rowFor 15 = .ok (.iconst 1, 1) := by decide +kernel
theorem dL_rowFor_16 : decode cL_rowFor 16 = .ok (.ireturn, 1) := by decide +kernel
theorem dL_rowFor_17 : decode cL_rowFor 17 = .ok (.astore 4, 2) := by decide +kernel
theorem dL_rowFor_19 : decode cL_rowFor 19 = .ok (.iconst 2, 1) := by decide +kernel
theorem dL_rowFor_20 : decode cL_rowFor 20 = .ok (.ireturn, 1) := by decide +kernel
theorem dL_rowFor_21 : decode cL_rowFor 21 = .ok (.astore 4, 2) := by decide +kernel
theorem dL_rowFor_23 : decode cL_rowFor 23 = .ok (.iconst 3, 1) := by decide +kernel
theorem dL_rowFor_24 : decode cL_rowFor 24 = .ok (.ireturn, 1) := by decide +kernel
theorem dL_rowFor_25 : decode cL_rowFor 25 = .ok (.iconst 0, 1) := by decide +kernel
theorem dL_rowFor_26 : decode cL_rowFor 26 = .ok (.ireturn, 1) := by decide +kernel
/-! THE LAW'S WRAPPERS: a call of the class, its answer or what it throws -/
def pw_fr (ad : Nat → Nat) (ao sz : Nat) : Nat → Prop := fun q => pt_fr ad sz q ∨ q = ao
/-- what the handlers' order asks: none of the three classes is another's -/
def pw_N (U : State) : Prop := va_Nc "java/lang/IndexOutOfBoundsException" "java/lang/IllegalStateException" U ∧ va_Nc "java/lang/IllegalArgumentException" "java/lang/IllegalStateException" U ∧ va_Nc "java/lang/IllegalArgumentException" "java/lang/IndexOutOfBoundsException" U
theorem pw_N.moved {u U : State} (hvm : u.vm.Alike U.vm) (h : pw_N u) : pw_N U := ⟨va_Nc.moved hvm h.1, va_Nc.moved hvm h.2.1, va_Nc.moved hvm h.2.2⟩
def pw_O (cA : Nat → ClassId) (ao : Nat) (g : Nat → Int64) : va_W := [(ao, .inl (cA 6, 1, .inr (.inl g)))]
def pw_P (D : va_G) (cA : Nat → ClassId) (ad : Nat → Nat) (ao : Nat) (g : Nat → Int64) (sz : Nat) (M : pt_M) : State → Prop := fun U => pt_P D cA ad sz M U ∧ px_Z (pw_fr ad ao sz) U U.heap ∧ va_P D pt_cl (pw_O cA ao g) U.heap ∧ (∀ k, k < 387 → ad k ≠ ao) ∧ pw_N U
theorem pw_blind {D : va_G} {cA : Nat → ClassId} {ad : Nat → Nat} {ao : Nat} {g : Nat → Int64} {sz : Nat} {M : pt_M} {As : List Value} : FrameBlind (va_Pc As (pw_P D cA ad ao g sz M)) := fun a U f mk q => ⟨q.1, ⟨q.2.1.1, q.2.1.2.1, va_K.moved (u := U) (U := U.calling f mk a) (Vm.Alike.refl U.vm) q.2.1.2.2⟩, px_Z.moved (u := U) (U := U.calling f mk a) (Vm.Alike.refl U.vm) q.2.2.1, q.2.2.2.1, q.2.2.2.2.1, pw_N.moved (u := U) (U := U.calling f mk a) (Vm.Alike.refl U.vm) q.2.2.2.2.2⟩
theorem pw_ofWH {l : Launch} {y : MethodName} {ws ws' : List Cond} {rm : Room} {Pc : Array Value → State → Prop} {Qc : Array Value → State → Outcome → State → Prop} {mc ms : Nat} {free : Addr → Prop} {cc : ByteArray} {maxL : Nat} {ret : Option FieldType} {hh : List (Nat × Nat × Nat × Nat)}
    (hy : plainName y.cls = true) (hw : ws = Cond.codeWith y cc maxL ret hh :: ws')
    (body : ∀ p e s m args below meth c s₁, BodyLoose p l y (headSpec ws rm) cc maxL ret e s m args below meth c s₁ → c.maxLocals = maxL → Pc args s →
      W p l e (headSpec ws rm).room s m args below meth c s.heap [] 0 0 (MQ below Qc args s mc ms free) (entryFrame m args maxL)) : Met l y ws rm Pc Qc mc ms free := by
  refine MetFree.of_bodyS (code := cc) (maxLocals := maxL) (ret := ret) hy ?_ ?_
  · intro args s m h hn
    obtain ⟨m9, meth, c, hn9, h1, h2, h3, h4, -, h5, h6, -⟩ := Cond.codeWith_spec (atoms_spec (ws := ws) h _ (by rw [hw]; exact List.mem_cons_self))
    cases hn.symm.trans hn9
    exact ⟨meth, c, h1, h2, h3, h4, h5, h6⟩
  · intro p e s m args below meth c s₁ B hml hP _
    have hh0 : s₁.heap = s.heap := by rw [B.state]; rfl
    obtain ⟨t, a1, o, b1, b2, b3⟩ := body p e s m args below meth c s₁ B hml hP s₁ hh0 (Stand.of_body B)
    exact ⟨t, o, a1, b1, b2, ⟨b3.1, b3.2⟩⟩
theorem pw_keep {D : va_G} {cA : Nat → ClassId} {ad : Nat → Nat} {ao : Nat} {g : Nat → Int64} {H H1 : Heap} (h : va_P D pt_cl (pw_O cA ao g) H) (hd : ∀ k, k < 387 → ad k ≠ ao) (ho : ∀ q : Nat, q < H.size → ¬ pt_fr ad H.size q → H1[q]? = H[q]?) : va_P D pt_cl (pw_O cA ao g) H1 := by
  intro k q hk
  have hlt := (h k q hk).lt
  have hq : q.1 = ao := by
    match k, hk with
    | 0, hk => cases hk; rfl
    | k + 1, hk => simp [pw_O] at hk
  refine (h k q hk).kept (ho q.1 hlt (fun z => ?_))
  rcases z with ⟨i, hi, e⟩ | z
  · exact hd i hi (e.symm.trans hq)
  · omega
theorem pw_D {A : Nat → Prop} {cA : Nat → ClassId} {ao : Nat} {g : Nat → Int64} (h : A ao) : va_D A (pw_O cA ao g) := by
  refine ⟨fun i j p q hi hj _ => ?_, fun k q hk => ?_⟩
  · have h1 : i < 1 := (List.getElem?_eq_some_iff.mp hi).1
    have h2 : j < 1 := (List.getElem?_eq_some_iff.mp hj).1
    omega
  · match k, hk with
    | 0, hk => cases hk; exact h
    | k + 1, hk => simp [pw_O] at hk
section PWR
variable {p : Program} {l : Launch} {e : Env} {R : Room} {s : State} {m : MethodId} {args : Array Value} {below : List Frame} {meth : Method} {c : Code} {H : Heap} {locs : List Loc} {cells slots : Nat} {Q : State → Prop}
variable {cc : ByteArray} {pc nL : Nat} {ls : Array Slot} {rest st : List Value} {D : va_G} {A : Nat → Prop} {cA : Nat → ClassId} {H0 : Heap} {own : String} {ao : Nat}
theorem pw_last (F : pt_F p m c cc nL s args own D cA) {g : Nat → Int64} (hP : va_P D pt_cl (pw_O cA ao g) H) (hA : A ao) (hS : va_S A H0 H locs) {x : Int64} (hdg : decode cc pc = .ok (.lastore, 1))
    (kk : ∀ (g1 : Nat → Int64) (H1 : Heap) (locs1 : List Loc), g1 0 = x → va_P D pt_cl (pw_O cA ao g1) H1 → va_S A H0 H1 locs1 → W p l e R s m args below meth c H1 locs1 cells slots Q (F0 m (pc + 1) ls rest)) : W p l e R s m args below meth c H locs cells slots Q (F0 m pc ls (.long x :: .int 0 :: .ref ao :: rest)) :=
  va_last (D := D) F.1.1 F.1.2.1 F.2 hP (pw_D hA) hS 0 6 rfl rfl (show vp_in 0 1 from by unfold vp_in; decide) hdg (fun H1 locs1 g1 _ g3 => kk _ H1 locs1 (if_pos rfl) g1 g3)
theorem pw_hand {name E : String} {ce : Cell} {q : Addr} (F : pt_F p m c cc nL s args own D cA) {hh : List (Nat × Nat × Nat × Nat)} (htab : c.exceptionTable.toList = tableOf hh) (pre : List ExceptionTableEntry) (x : ExceptionTableEntry) (suf : List ExceptionTableEntry) (hsplit : tableOf hh = pre ++ x :: suf)
    (hpass : ∀ z ∈ pre, z.catchType ≠ 0 ∧ ∃ nm : String, Cond.classLink own z.catchType nm ∈ lw_all ∧ va_Nc E nm s) (hx : covers x pc = true) (h0 : x.catchType ≠ 0)
    (hlink : Cond.classLink own x.catchType name ∈ lw_all) (hcast : Cond.castable E name ∈ lw_all) (hcell : H[q]? = some ce) (hv : ce.vm = .none) (hcl : s.vm.findClass E = some ce.cls)
    (kk : W p l e R s m args below meth c H locs cells slots Q (F0 m x.handlerPc ls [.ref q])) : vx_W p l e R s m args below meth c H locs cells slots Q (F0 m pc ls rest) q :=
  vx_catch F.1.2.2.2.1 pre x suf (htab.trans hsplit) (fun z hz => Or.inr ⟨(hpass z hz).1, (hpass z hz).2.choose, F.1.2.2.2.2 _ (hpass z hz).2.choose_spec.1, (hpass z hz).2.choose_spec.2⟩) hx h0 (F.1.2.2.2.2 _ hlink) (F.1.2.2.2.2 _ hcast) hcell hv hcl kk
theorem pw_runS (F : pt_F p m c cc nL s args own D cA) {As : List Value} {y : MethodName} {bytes : ByteArray} {maxL index n mc ms : Nat} {ret : Option FieldType} {hh : List (Nat × Nat × Nat × Nat)} {rm : Room} {PU : State → Prop} {Qc : Array Value → State → Outcome → State → Prop} {free : Addr → Prop}
    (hM : Met l y (Cond.codeWith y bytes maxL ret hh :: lw_all) rm (va_Pc As PU) Qc mc ms free) (hbl : FrameBlind (va_Pc As PU)) (hp : ∀ U : State, U.heap = H → s.WarmedH U.vm → PU U) (h1 : Cond.codeWith y bytes maxL ret hh ∈ lw_all) (h2 : Cond.methodLink own index y ∈ lw_all) (h5 : Cond.initialized y.cls ∈ lw_all) (h3 : Cond.static y ∈ lw_all) (hd : y.cls ≠ "java/lang/invoke/MethodHandle" ∧ y.cls ≠ "java/lang/invoke/VarHandle" ∧ (parseMethodDescriptor y.desc).map (fun d => d.parameters.length) = some n) (hrm : rm.cells = mc ∧ rm.slots = ms ∧ rm.frames + 1 ≤ R.frames ∧ 8 + (maxL + 11) + rm.locals ≤ R.locals)
    (hn : As.length = n) (hsz : ls.size = nL) (hst : st = As.reverse ++ rest) (hW : (rest.map fun v => v.category).sum ≤ 8) (hdg : decode cc pc = .ok (.invokestatic index, 3)) (hcs : cells + mc ≤ R.cells ∧ slots + ms ≤ R.slots) :
    va_Run p l e R s m args below meth c H locs cells slots mc ms (F0 m pc ls st) rest (Qc As.toArray) free := by
  have hts := F.1.2.2.2.2
  refine vx_runSW (As := As) (rest := rest) F.1 hM ⟨⟨hrm.1, hrm.2.1, hrm.2.2.1, hrm.2.2.2, ?_, List.mem_cons_self⟩, hts _ h1, hts _ h5, ⟨hd.1, hd.2.1⟩, pt_kn hd.2.2, hts _ h2, hts _ h3⟩ ⟨hbl, fun U hU hW => ⟨rfl, hp U hU hW⟩⟩ rfl hn hsz hst (lv_room hW) hdg hcs
  intro w hw a' U hW
  rcases List.mem_cons.mp hw with rfl | hw
  · exact pt_pay hts _ h1 a' U hW
  · exact pt_pay hts _ hw a' U hW
end PWR
