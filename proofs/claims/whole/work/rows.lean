section
-- begun with the kit's skeleton, PART A (given for pasting)
-- ===== PART A: goes FIRST, ahead of the names: the tables' words, and 'selects' of the private methods out of them =====
/-- a private method of a class that the tables say can be made, by its rows of tables_1 -/
def lw_okq (q : MethodName × Nat) : Prop := (q.1.cls ≠ "java/lang/invoke/MethodHandle" ∧ q.1.cls ≠ "java/lang/invoke/VarHandle") ∧ Cond.instantiable q.1.cls q.2 ∈ tables_1 ∧ Cond.privateMethod q.1 ∈ tables_1 ∧ Cond.instanceMethod q.1 ∈ tables_1
theorem lw_p0 : lw_okq (⟨"PuppetTheatre", "digestOfStates", "(J)J"⟩, 5) := ⟨⟨by decide +kernel, by decide +kernel⟩, List.mem_of_getElem? (i := 33) (by decide +kernel), List.mem_of_getElem? (i := 416) (by decide +kernel), List.mem_of_getElem? (i := 417) (by decide +kernel)⟩
theorem lw_p1 : lw_okq (⟨"PuppetTheatre", "checkState", "(I)V"⟩, 5) := ⟨⟨by decide +kernel, by decide +kernel⟩, List.mem_of_getElem? (i := 33) (by decide +kernel), List.mem_of_getElem? (i := 428) (by decide +kernel), List.mem_of_getElem? (i := 429) (by decide +kernel)⟩
theorem lw_p2 : lw_okq (⟨"java/lang/Throwable", "fillInStackTrace", "(I)Ljava/lang/Throwable;"⟩, 6) := ⟨⟨by decide +kernel, by decide +kernel⟩, List.mem_of_getElem? (i := 470) (by decide +kernel), List.mem_of_getElem? (i := 468) (by decide +kernel), List.mem_of_getElem? (i := 469) (by decide +kernel)⟩
theorem lw_p3 : lw_okq (⟨"PuppetTheatre", "checkTransition", "(I)V"⟩, 5) := ⟨⟨by decide +kernel, by decide +kernel⟩, List.mem_of_getElem? (i := 33) (by decide +kernel), List.mem_of_getElem? (i := 530) (by decide +kernel), List.mem_of_getElem? (i := 531) (by decide +kernel)⟩
theorem lw_p4 : lw_okq (⟨"PuppetTheatre", "checkResting", "()V"⟩, 5) := ⟨⟨by decide +kernel, by decide +kernel⟩, List.mem_of_getElem? (i := 33) (by decide +kernel), List.mem_of_getElem? (i := 586) (by decide +kernel), List.mem_of_getElem? (i := 587) (by decide +kernel)⟩
theorem lw_p5 : lw_okq (⟨"PuppetTheatre$Chart", "scopeOf", "(II)I"⟩, 7) := ⟨⟨by decide +kernel, by decide +kernel⟩, List.mem_of_getElem? (i := 41) (by decide +kernel), List.mem_of_getElem? (i := 622) (by decide +kernel), List.mem_of_getElem? (i := 623) (by decide +kernel)⟩
theorem lw_p6 : lw_okq (⟨"PuppetTheatre$Play", "act", "(LPuppetTheatre$Action;)V"⟩, 11) := ⟨⟨by decide +kernel, by decide +kernel⟩, List.mem_of_getElem? (i := 205) (by decide +kernel), List.mem_of_getElem? (i := 676) (by decide +kernel), List.mem_of_getElem? (i := 677) (by decide +kernel)⟩
theorem lw_p7 : lw_okq (⟨"PuppetTheatre$Play", "raise", "(I)V"⟩, 11) := ⟨⟨by decide +kernel, by decide +kernel⟩, List.mem_of_getElem? (i := 205) (by decide +kernel), List.mem_of_getElem? (i := 690) (by decide +kernel), List.mem_of_getElem? (i := 691) (by decide +kernel)⟩
theorem lw_p8 : lw_okq (⟨"PuppetTheatre$Play", "loseQueue", "()V"⟩, 11) := ⟨⟨by decide +kernel, by decide +kernel⟩, List.mem_of_getElem? (i := 205) (by decide +kernel), List.mem_of_getElem? (i := 699) (by decide +kernel), List.mem_of_getElem? (i := 700) (by decide +kernel)⟩
theorem lw_p9 : lw_okq (⟨"PuppetTheatre$Play", "growOlder", "()V"⟩, 11) := ⟨⟨by decide +kernel, by decide +kernel⟩, List.mem_of_getElem? (i := 205) (by decide +kernel), List.mem_of_getElem? (i := 703) (by decide +kernel), List.mem_of_getElem? (i := 704) (by decide +kernel)⟩
theorem lw_p10 : lw_okq (⟨"PuppetTheatre$Play", "step", "(I)I"⟩, 11) := ⟨⟨by decide +kernel, by decide +kernel⟩, List.mem_of_getElem? (i := 205) (by decide +kernel), List.mem_of_getElem? (i := 707) (by decide +kernel), List.mem_of_getElem? (i := 708) (by decide +kernel)⟩
theorem lw_p11 : lw_okq (⟨"PuppetTheatre$Play", "isOpen", "(LPuppetTheatre$Transition;I)Z"⟩, 11) := ⟨⟨by decide +kernel, by decide +kernel⟩, List.mem_of_getElem? (i := 205) (by decide +kernel), List.mem_of_getElem? (i := 716) (by decide +kernel), List.mem_of_getElem? (i := 717) (by decide +kernel)⟩
theorem lw_p12 : lw_okq (⟨"PuppetTheatre$Play", "choose", "(I)V"⟩, 11) := ⟨⟨by decide +kernel, by decide +kernel⟩, List.mem_of_getElem? (i := 205) (by decide +kernel), List.mem_of_getElem? (i := 724) (by decide +kernel), List.mem_of_getElem? (i := 725) (by decide +kernel)⟩
theorem lw_p13 : lw_okq (⟨"PuppetTheatre$Play", "nearestOpen", "(II)I"⟩, 11) := ⟨⟨by decide +kernel, by decide +kernel⟩, List.mem_of_getElem? (i := 205) (by decide +kernel), List.mem_of_getElem? (i := 728) (by decide +kernel), List.mem_of_getElem? (i := 729) (by decide +kernel)⟩
theorem lw_p14 : lw_okq (⟨"PuppetTheatre$Play", "takeIfFree", "(I)V"⟩, 11) := ⟨⟨by decide +kernel, by decide +kernel⟩, List.mem_of_getElem? (i := 205) (by decide +kernel), List.mem_of_getElem? (i := 736) (by decide +kernel), List.mem_of_getElem? (i := 737) (by decide +kernel)⟩
theorem lw_p15 : lw_okq (⟨"PuppetTheatre$Play", "leftBy", "(LPuppetTheatre$Transition;)I"⟩, 11) := ⟨⟨by decide +kernel, by decide +kernel⟩, List.mem_of_getElem? (i := 205) (by decide +kernel), List.mem_of_getElem? (i := 740) (by decide +kernel), List.mem_of_getElem? (i := 741) (by decide +kernel)⟩
def lw_privs_1 : List (MethodName × Nat) := [(⟨"PuppetTheatre", "digestOfStates", "(J)J"⟩, 5), (⟨"PuppetTheatre", "checkState", "(I)V"⟩, 5), (⟨"java/lang/Throwable", "fillInStackTrace", "(I)Ljava/lang/Throwable;"⟩, 6), (⟨"PuppetTheatre", "checkTransition", "(I)V"⟩, 5), (⟨"PuppetTheatre", "checkResting", "()V"⟩, 5), (⟨"PuppetTheatre$Chart", "scopeOf", "(II)I"⟩, 7), (⟨"PuppetTheatre$Play", "act", "(LPuppetTheatre$Action;)V"⟩, 11), (⟨"PuppetTheatre$Play", "raise", "(I)V"⟩, 11), (⟨"PuppetTheatre$Play", "loseQueue", "()V"⟩, 11), (⟨"PuppetTheatre$Play", "growOlder", "()V"⟩, 11), (⟨"PuppetTheatre$Play", "step", "(I)I"⟩, 11), (⟨"PuppetTheatre$Play", "isOpen", "(LPuppetTheatre$Transition;I)Z"⟩, 11), (⟨"PuppetTheatre$Play", "choose", "(I)V"⟩, 11), (⟨"PuppetTheatre$Play", "nearestOpen", "(II)I"⟩, 11), (⟨"PuppetTheatre$Play", "takeIfFree", "(I)V"⟩, 11), (⟨"PuppetTheatre$Play", "leftBy", "(LPuppetTheatre$Transition;)I"⟩, 11)]
theorem lw_r1 : ∀ q ∈ lw_privs_1, lw_okq q := List.forall_mem_cons.mpr ⟨lw_p0, List.forall_mem_cons.mpr ⟨lw_p1, List.forall_mem_cons.mpr ⟨lw_p2, List.forall_mem_cons.mpr ⟨lw_p3, List.forall_mem_cons.mpr ⟨lw_p4, List.forall_mem_cons.mpr ⟨lw_p5, List.forall_mem_cons.mpr ⟨lw_p6, List.forall_mem_cons.mpr ⟨lw_p7, List.forall_mem_cons.mpr ⟨lw_p8, List.forall_mem_cons.mpr ⟨lw_p9, List.forall_mem_cons.mpr ⟨lw_p10, List.forall_mem_cons.mpr ⟨lw_p11, List.forall_mem_cons.mpr ⟨lw_p12, List.forall_mem_cons.mpr ⟨lw_p13, List.forall_mem_cons.mpr ⟨lw_p14, List.forall_mem_cons.mpr ⟨lw_p15, fun _ h => absurd h List.not_mem_nil⟩⟩⟩⟩⟩⟩⟩⟩⟩⟩⟩⟩⟩⟩⟩⟩
theorem lw_p16 : lw_okq (⟨"PuppetTheatre$Play", "makeRecords", "(I)V"⟩, 11) := ⟨⟨by decide +kernel, by decide +kernel⟩, List.mem_of_getElem? (i := 205) (by decide +kernel), List.mem_of_getElem? (i := 744) (by decide +kernel), List.mem_of_getElem? (i := 745) (by decide +kernel)⟩
theorem lw_p17 : lw_okq (⟨"PuppetTheatre$Play", "leave", "(I)V"⟩, 11) := ⟨⟨by decide +kernel, by decide +kernel⟩, List.mem_of_getElem? (i := 205) (by decide +kernel), List.mem_of_getElem? (i := 749) (by decide +kernel), List.mem_of_getElem? (i := 750) (by decide +kernel)⟩
theorem lw_p18 : lw_okq (⟨"PuppetTheatre$Play", "targetsOf", "(LPuppetTheatre$Transition;)I"⟩, 11) := ⟨⟨by decide +kernel, by decide +kernel⟩, List.mem_of_getElem? (i := 205) (by decide +kernel), List.mem_of_getElem? (i := 753) (by decide +kernel), List.mem_of_getElem? (i := 754) (by decide +kernel)⟩
theorem lw_p19 : lw_okq (⟨"PuppetTheatre$Chart", "partsAside", "(II)I"⟩, 7) := ⟨⟨by decide +kernel, by decide +kernel⟩, List.mem_of_getElem? (i := 41) (by decide +kernel), List.mem_of_getElem? (i := 761) (by decide +kernel), List.mem_of_getElem? (i := 762) (by decide +kernel)⟩
theorem lw_p20 : lw_okq (⟨"PuppetTheatre$Play", "nextEvent", "()I"⟩, 11) := ⟨⟨by decide +kernel, by decide +kernel⟩, List.mem_of_getElem? (i := 205) (by decide +kernel), List.mem_of_getElem? (i := 767) (by decide +kernel), List.mem_of_getElem? (i := 768) (by decide +kernel)⟩
theorem lw_p21 : lw_okq (⟨"PuppetTheatre", "checkRunning", "()V"⟩, 5) := ⟨⟨by decide +kernel, by decide +kernel⟩, List.mem_of_getElem? (i := 33) (by decide +kernel), List.mem_of_getElem? (i := 778) (by decide +kernel), List.mem_of_getElem? (i := 779) (by decide +kernel)⟩
theorem lw_p22 : lw_okq (⟨"PuppetTheatre$Look", "isReached", "(II)Z"⟩, 9) := ⟨⟨by decide +kernel, by decide +kernel⟩, List.mem_of_getElem? (i := 280) (by decide +kernel), List.mem_of_getElem? (i := 873) (by decide +kernel), List.mem_of_getElem? (i := 874) (by decide +kernel)⟩
theorem lw_p23 : lw_okq (⟨"PuppetTheatre$Look", "writeRow", "(II)V"⟩, 9) := ⟨⟨by decide +kernel, by decide +kernel⟩, List.mem_of_getElem? (i := 280) (by decide +kernel), List.mem_of_getElem? (i := 877) (by decide +kernel), List.mem_of_getElem? (i := 878) (by decide +kernel)⟩
theorem lw_p24 : lw_okq (⟨"PuppetTheatre$Look", "keepIfNew", "(II)V"⟩, 9) := ⟨⟨by decide +kernel, by decide +kernel⟩, List.mem_of_getElem? (i := 280) (by decide +kernel), List.mem_of_getElem? (i := 881) (by decide +kernel), List.mem_of_getElem? (i := 882) (by decide +kernel)⟩
theorem lw_p25 : lw_okq (⟨"java/util/ArrayList", "add", "(Ljava/lang/Object;[Ljava/lang/Object;I)V"⟩, 3) := ⟨⟨by decide +kernel, by decide +kernel⟩, List.mem_of_getElem? (i := 908) (by decide +kernel), List.mem_of_getElem? (i := 1034) (by decide +kernel), List.mem_of_getElem? (i := 1035) (by decide +kernel)⟩
theorem lw_p26 : lw_okq (⟨"java/util/ArrayList", "grow", "()[Ljava/lang/Object;"⟩, 3) := ⟨⟨by decide +kernel, by decide +kernel⟩, List.mem_of_getElem? (i := 908) (by decide +kernel), List.mem_of_getElem? (i := 1038) (by decide +kernel), List.mem_of_getElem? (i := 1039) (by decide +kernel)⟩
theorem lw_p27 : lw_okq (⟨"java/util/ArrayList", "grow", "(I)[Ljava/lang/Object;"⟩, 3) := ⟨⟨by decide +kernel, by decide +kernel⟩, List.mem_of_getElem? (i := 908) (by decide +kernel), List.mem_of_getElem? (i := 1042) (by decide +kernel), List.mem_of_getElem? (i := 1043) (by decide +kernel)⟩
theorem lw_p28 : lw_okq (⟨"PuppetTheatreModel", "start", "(ZI)Z"⟩, 5) := ⟨⟨by decide +kernel, by decide +kernel⟩, List.mem_of_getElem? (i := 896) (by decide +kernel), List.mem_of_getElem? (i := 1118) (by decide +kernel), List.mem_of_getElem? (i := 1119) (by decide +kernel)⟩
theorem lw_p29 : lw_okq (⟨"PuppetTheatreModel", "refuse", "(ZI)Z"⟩, 5) := ⟨⟨by decide +kernel, by decide +kernel⟩, List.mem_of_getElem? (i := 896) (by decide +kernel), List.mem_of_getElem? (i := 1122) (by decide +kernel), List.mem_of_getElem? (i := 1123) (by decide +kernel)⟩
theorem lw_p30 : lw_okq (⟨"PuppetTheatreModel", "isNoState", "(I)Z"⟩, 5) := ⟨⟨by decide +kernel, by decide +kernel⟩, List.mem_of_getElem? (i := 896) (by decide +kernel), List.mem_of_getElem? (i := 1126) (by decide +kernel), List.mem_of_getElem? (i := 1127) (by decide +kernel)⟩
theorem lw_p31 : lw_okq (⟨"PuppetTheatreModel", "isNoTransition", "(I)Z"⟩, 5) := ⟨⟨by decide +kernel, by decide +kernel⟩, List.mem_of_getElem? (i := 896) (by decide +kernel), List.mem_of_getElem? (i := 1239) (by decide +kernel), List.mem_of_getElem? (i := 1240) (by decide +kernel)⟩
def lw_privs_2 : List (MethodName × Nat) := [(⟨"PuppetTheatre$Play", "makeRecords", "(I)V"⟩, 11), (⟨"PuppetTheatre$Play", "leave", "(I)V"⟩, 11), (⟨"PuppetTheatre$Play", "targetsOf", "(LPuppetTheatre$Transition;)I"⟩, 11), (⟨"PuppetTheatre$Chart", "partsAside", "(II)I"⟩, 7), (⟨"PuppetTheatre$Play", "nextEvent", "()I"⟩, 11), (⟨"PuppetTheatre", "checkRunning", "()V"⟩, 5), (⟨"PuppetTheatre$Look", "isReached", "(II)Z"⟩, 9), (⟨"PuppetTheatre$Look", "writeRow", "(II)V"⟩, 9), (⟨"PuppetTheatre$Look", "keepIfNew", "(II)V"⟩, 9), (⟨"java/util/ArrayList", "add", "(Ljava/lang/Object;[Ljava/lang/Object;I)V"⟩, 3), (⟨"java/util/ArrayList", "grow", "()[Ljava/lang/Object;"⟩, 3), (⟨"java/util/ArrayList", "grow", "(I)[Ljava/lang/Object;"⟩, 3), (⟨"PuppetTheatreModel", "start", "(ZI)Z"⟩, 5), (⟨"PuppetTheatreModel", "refuse", "(ZI)Z"⟩, 5), (⟨"PuppetTheatreModel", "isNoState", "(I)Z"⟩, 5), (⟨"PuppetTheatreModel", "isNoTransition", "(I)Z"⟩, 5)]
theorem lw_r2 : ∀ q ∈ lw_privs_2, lw_okq q := List.forall_mem_cons.mpr ⟨lw_p16, List.forall_mem_cons.mpr ⟨lw_p17, List.forall_mem_cons.mpr ⟨lw_p18, List.forall_mem_cons.mpr ⟨lw_p19, List.forall_mem_cons.mpr ⟨lw_p20, List.forall_mem_cons.mpr ⟨lw_p21, List.forall_mem_cons.mpr ⟨lw_p22, List.forall_mem_cons.mpr ⟨lw_p23, List.forall_mem_cons.mpr ⟨lw_p24, List.forall_mem_cons.mpr ⟨lw_p25, List.forall_mem_cons.mpr ⟨lw_p26, List.forall_mem_cons.mpr ⟨lw_p27, List.forall_mem_cons.mpr ⟨lw_p28, List.forall_mem_cons.mpr ⟨lw_p29, List.forall_mem_cons.mpr ⟨lw_p30, List.forall_mem_cons.mpr ⟨lw_p31, fun _ h => absurd h List.not_mem_nil⟩⟩⟩⟩⟩⟩⟩⟩⟩⟩⟩⟩⟩⟩⟩⟩
theorem lw_p32 : lw_okq (⟨"PuppetTheatreModel$Run", "enter", "(I)V"⟩, 11) := ⟨⟨by decide +kernel, by decide +kernel⟩, List.mem_of_getElem? (i := 945) (by decide +kernel), List.mem_of_getElem? (i := 1266) (by decide +kernel), List.mem_of_getElem? (i := 1267) (by decide +kernel)⟩
theorem lw_p33 : lw_okq (⟨"PuppetTheatreModel$Run", "act", "([I)V"⟩, 11) := ⟨⟨by decide +kernel, by decide +kernel⟩, List.mem_of_getElem? (i := 945) (by decide +kernel), List.mem_of_getElem? (i := 1274) (by decide +kernel), List.mem_of_getElem? (i := 1275) (by decide +kernel)⟩
theorem lw_p34 : lw_okq (⟨"PuppetTheatreModel$Run", "settle", "(I)I"⟩, 11) := ⟨⟨by decide +kernel, by decide +kernel⟩, List.mem_of_getElem? (i := 945) (by decide +kernel), List.mem_of_getElem? (i := 1301) (by decide +kernel), List.mem_of_getElem? (i := 1302) (by decide +kernel)⟩
theorem lw_p35 : lw_okq (⟨"PuppetTheatreModel$Run", "step", "(II)I"⟩, 11) := ⟨⟨by decide +kernel, by decide +kernel⟩, List.mem_of_getElem? (i := 945) (by decide +kernel), List.mem_of_getElem? (i := 1311) (by decide +kernel), List.mem_of_getElem? (i := 1312) (by decide +kernel)⟩
theorem lw_p36 : lw_okq (⟨"PuppetTheatreModel$Run", "taken", "(II)Ljava/util/ArrayList;"⟩, 11) := ⟨⟨by decide +kernel, by decide +kernel⟩, List.mem_of_getElem? (i := 945) (by decide +kernel), List.mem_of_getElem? (i := 1315) (by decide +kernel), List.mem_of_getElem? (i := 1316) (by decide +kernel)⟩
theorem lw_p37 : lw_okq (⟨"PuppetTheatreModel$Run", "chosen", "(III)I"⟩, 11) := ⟨⟨by decide +kernel, by decide +kernel⟩, List.mem_of_getElem? (i := 945) (by decide +kernel), List.mem_of_getElem? (i := 1323) (by decide +kernel), List.mem_of_getElem? (i := 1324) (by decide +kernel)⟩
theorem lw_p38 : lw_okq (⟨"PuppetTheatreModel$Run", "isOpen", "(LPuppetTheatreModel$Transition;II)Z"⟩, 11) := ⟨⟨by decide +kernel, by decide +kernel⟩, List.mem_of_getElem? (i := 945) (by decide +kernel), List.mem_of_getElem? (i := 1328) (by decide +kernel), List.mem_of_getElem? (i := 1329) (by decide +kernel)⟩
theorem lw_p39 : lw_okq (⟨"PuppetTheatreModel$Run", "holds", "([I)Z"⟩, 11) := ⟨⟨by decide +kernel, by decide +kernel⟩, List.mem_of_getElem? (i := 945) (by decide +kernel), List.mem_of_getElem? (i := 1332) (by decide +kernel), List.mem_of_getElem? (i := 1333) (by decide +kernel)⟩
theorem lw_p40 : lw_okq (⟨"PuppetTheatreModel$Run", "leaves", "(I)I"⟩, 11) := ⟨⟨by decide +kernel, by decide +kernel⟩, List.mem_of_getElem? (i := 945) (by decide +kernel), List.mem_of_getElem? (i := 1341) (by decide +kernel), List.mem_of_getElem? (i := 1342) (by decide +kernel)⟩
theorem lw_p41 : lw_okq (⟨"java/util/ArrayList", "fastRemove", "([Ljava/lang/Object;I)V"⟩, 3) := ⟨⟨by decide +kernel, by decide +kernel⟩, List.mem_of_getElem? (i := 908) (by decide +kernel), List.mem_of_getElem? (i := 1367) (by decide +kernel), List.mem_of_getElem? (i := 1368) (by decide +kernel)⟩
theorem lw_p42 : lw_okq (⟨"PuppetTheatreModel$Run", "activeLeaves", "(I)I"⟩, 11) := ⟨⟨by decide +kernel, by decide +kernel⟩, List.mem_of_getElem? (i := 945) (by decide +kernel), List.mem_of_getElem? (i := 1373) (by decide +kernel), List.mem_of_getElem? (i := 1374) (by decide +kernel)⟩
theorem lw_p43 : lw_okq (⟨"PuppetTheatreModel$Run", "into", "(LPuppetTheatreModel$Transition;)I"⟩, 11) := ⟨⟨by decide +kernel, by decide +kernel⟩, List.mem_of_getElem? (i := 945) (by decide +kernel), List.mem_of_getElem? (i := 1377) (by decide +kernel), List.mem_of_getElem? (i := 1378) (by decide +kernel)⟩
theorem lw_p44 : lw_okq (⟨"PuppetTheatreModel", "plain", "(I)I"⟩, 5) := ⟨⟨by decide +kernel, by decide +kernel⟩, List.mem_of_getElem? (i := 896) (by decide +kernel), List.mem_of_getElem? (i := 1416) (by decide +kernel), List.mem_of_getElem? (i := 1417) (by decide +kernel)⟩
theorem lw_p45 : lw_okq (⟨"PuppetTheatreModel", "of", "(II)I"⟩, 5) := ⟨⟨by decide +kernel, by decide +kernel⟩, List.mem_of_getElem? (i := 896) (by decide +kernel), List.mem_of_getElem? (i := 1428) (by decide +kernel), List.mem_of_getElem? (i := 1429) (by decide +kernel)⟩
theorem lw_p46 : lw_okq (⟨"PuppetTheatreModel", "age", "(I)I"⟩, 5) := ⟨⟨by decide +kernel, by decide +kernel⟩, List.mem_of_getElem? (i := 896) (by decide +kernel), List.mem_of_getElem? (i := 1455) (by decide +kernel), List.mem_of_getElem? (i := 1456) (by decide +kernel)⟩
theorem lw_p47 : lw_okq (⟨"PuppetTheatreModel", "covers", "()I"⟩, 5) := ⟨⟨by decide +kernel, by decide +kernel⟩, List.mem_of_getElem? (i := 896) (by decide +kernel), List.mem_of_getElem? (i := 1479) (by decide +kernel), List.mem_of_getElem? (i := 1480) (by decide +kernel)⟩
def lw_privs_3 : List (MethodName × Nat) := [(⟨"PuppetTheatreModel$Run", "enter", "(I)V"⟩, 11), (⟨"PuppetTheatreModel$Run", "act", "([I)V"⟩, 11), (⟨"PuppetTheatreModel$Run", "settle", "(I)I"⟩, 11), (⟨"PuppetTheatreModel$Run", "step", "(II)I"⟩, 11), (⟨"PuppetTheatreModel$Run", "taken", "(II)Ljava/util/ArrayList;"⟩, 11), (⟨"PuppetTheatreModel$Run", "chosen", "(III)I"⟩, 11), (⟨"PuppetTheatreModel$Run", "isOpen", "(LPuppetTheatreModel$Transition;II)Z"⟩, 11), (⟨"PuppetTheatreModel$Run", "holds", "([I)Z"⟩, 11), (⟨"PuppetTheatreModel$Run", "leaves", "(I)I"⟩, 11), (⟨"java/util/ArrayList", "fastRemove", "([Ljava/lang/Object;I)V"⟩, 3), (⟨"PuppetTheatreModel$Run", "activeLeaves", "(I)I"⟩, 11), (⟨"PuppetTheatreModel$Run", "into", "(LPuppetTheatreModel$Transition;)I"⟩, 11), (⟨"PuppetTheatreModel", "plain", "(I)I"⟩, 5), (⟨"PuppetTheatreModel", "of", "(II)I"⟩, 5), (⟨"PuppetTheatreModel", "age", "(I)I"⟩, 5), (⟨"PuppetTheatreModel", "covers", "()I"⟩, 5)]
theorem lw_r3 : ∀ q ∈ lw_privs_3, lw_okq q := List.forall_mem_cons.mpr ⟨lw_p32, List.forall_mem_cons.mpr ⟨lw_p33, List.forall_mem_cons.mpr ⟨lw_p34, List.forall_mem_cons.mpr ⟨lw_p35, List.forall_mem_cons.mpr ⟨lw_p36, List.forall_mem_cons.mpr ⟨lw_p37, List.forall_mem_cons.mpr ⟨lw_p38, List.forall_mem_cons.mpr ⟨lw_p39, List.forall_mem_cons.mpr ⟨lw_p40, List.forall_mem_cons.mpr ⟨lw_p41, List.forall_mem_cons.mpr ⟨lw_p42, List.forall_mem_cons.mpr ⟨lw_p43, List.forall_mem_cons.mpr ⟨lw_p44, List.forall_mem_cons.mpr ⟨lw_p45, List.forall_mem_cons.mpr ⟨lw_p46, List.forall_mem_cons.mpr ⟨lw_p47, fun _ h => absurd h List.not_mem_nil⟩⟩⟩⟩⟩⟩⟩⟩⟩⟩⟩⟩⟩⟩⟩⟩
theorem lw_p48 : lw_okq (⟨"PuppetTheatreModel", "isNoEvent", "(I)Z"⟩, 5) := ⟨⟨by decide +kernel, by decide +kernel⟩, List.mem_of_getElem? (i := 896) (by decide +kernel), List.mem_of_getElem? (i := 1495) (by decide +kernel), List.mem_of_getElem? (i := 1496) (by decide +kernel)⟩
theorem lw_p49 : lw_okq (⟨"PuppetTheatreModel", "look", "(III)I"⟩, 5) := ⟨⟨by decide +kernel, by decide +kernel⟩, List.mem_of_getElem? (i := 896) (by decide +kernel), List.mem_of_getElem? (i := 1543) (by decide +kernel), List.mem_of_getElem? (i := 1544) (by decide +kernel)⟩
theorem lw_p50 : lw_okq (⟨"PuppetTheatreModel", "rowed", "(I)I"⟩, 5) := ⟨⟨by decide +kernel, by decide +kernel⟩, List.mem_of_getElem? (i := 896) (by decide +kernel), List.mem_of_getElem? (i := 1569) (by decide +kernel), List.mem_of_getElem? (i := 1570) (by decide +kernel)⟩
def lw_privs_4 : List (MethodName × Nat) := [(⟨"PuppetTheatreModel", "isNoEvent", "(I)Z"⟩, 5), (⟨"PuppetTheatreModel", "look", "(III)I"⟩, 5), (⟨"PuppetTheatreModel", "rowed", "(I)I"⟩, 5)]
theorem lw_r4 : ∀ q ∈ lw_privs_4, lw_okq q := List.forall_mem_cons.mpr ⟨lw_p48, List.forall_mem_cons.mpr ⟨lw_p49, List.forall_mem_cons.mpr ⟨lw_p50, fun _ h => absurd h List.not_mem_nil⟩⟩⟩
def lw_privs : List (MethodName × Nat) := lw_privs_1 ++ (lw_privs_2 ++ (lw_privs_3 ++ (lw_privs_4)))
def lw_tbl : List Cond := k2_sels lw_privs ++ tables_1
theorem lw_privs_ok : ∀ q ∈ lw_privs, lw_okq q := by
  show ∀ q ∈ lw_privs_1 ++ (lw_privs_2 ++ (lw_privs_3 ++ (lw_privs_4))), lw_okq q
  exact List.forall_mem_append.mpr ⟨lw_r1, List.forall_mem_append.mpr ⟨lw_r2, List.forall_mem_append.mpr ⟨lw_r3, lw_r4⟩⟩⟩
/-- the streams that the claim lets the run draw from -/
abbrev lw_cs : List Choice := [Jvm.Choice.named "NaN.bits"]
theorem lw_bits : nanBits ∈ lw_cs := by first | decide | exact List.mem_cons_self | simp [lw_cs, nanBits]
end
section
-- names, field tables and decode rows: chosen by wip/gen/setup.py out of what TURN printed of the class (given for pasting)
def RX0 : String := "PuppetTheatre$Action"
def TX0 : u_T := fun k => match k with
  | 0 => ("PuppetTheatre$Action", "code", "I", false)
  | 1 => ("PuppetTheatre$Action", "what", "I", false)
  | _ => ("PuppetTheatre$Action", "n", "I", false)
def tyX0 : Nat → FieldType := fun k => match k with
  | 0 => .int
  | 1 => .int
  | _ => .int
abbrev wsX00 : List Cond := u_ws RX0 TX0 3
theorem nmX0 : ∀ a, a < 3 → ∀ b, b < 3 → a ≠ b → (TX0 a).2.1 ≠ (TX0 b).2.1 := by decide +kernel
theorem tyX0_ok : ∀ k, k < 3 → parseFieldDescriptor (TX0 k).2.2.1 = some (tyX0 k) := by decide +kernel
abbrev cX0_init : ByteArray := prog_2_method_1_code
def yX0_init : MethodName := ⟨RX0, "<init>", "()V"⟩
abbrev cX0_become : ByteArray := prog_2_method_2_code
def yX0_become : MethodName := ⟨RX0, "become", "(III)I"⟩
def RX1 : String := "PuppetTheatre$Chart"
def TX1 : u_T := fun k => match k with
  | 0 => ("PuppetTheatre$Chart", "states", "[LPuppetTheatre$State;", true)
  | 1 => ("PuppetTheatre$Chart", "transitions", "[LPuppetTheatre$Transition;", true)
  | 2 => ("PuppetTheatre$Chart", "causedBy", "[I", true)
  | 3 => ("PuppetTheatre$Chart", "stateCount", "I", false)
  | 4 => ("PuppetTheatre$Chart", "transitionCount", "I", false)
  | 5 => ("PuppetTheatre$Chart", "leaves", "I", false)
  | _ => ("PuppetTheatre$Chart", "ends", "I", false)
def tyX1 : Nat → FieldType := fun k => match k with
  | 0 => .array (.object "PuppetTheatre$State")
  | 1 => .array (.object "PuppetTheatre$Transition")
  | 2 => .array .int
  | 3 => .int
  | 4 => .int
  | 5 => .int
  | _ => .int
abbrev wsX10 : List Cond := u_ws RX1 TX1 7
theorem nmX1 : ∀ a, a < 7 → ∀ b, b < 7 → a ≠ b → (TX1 a).2.1 ≠ (TX1 b).2.1 := by decide +kernel
theorem tyX1_ok : ∀ k, k < 7 → parseFieldDescriptor (TX1 k).2.2.1 = some (tyX1 k) := by decide +kernel
abbrev cX1_init : ByteArray := prog_3_method_1_code
def yX1_init : MethodName := ⟨RX1, "<init>", "()V"⟩
abbrev cX1_putState : ByteArray := prog_3_method_2_code
def yX1_putState : MethodName := ⟨RX1, "putState", "(II)I"⟩
abbrev cX1_putTransition : ByteArray := prog_3_method_3_code
def yX1_putTransition : MethodName := ⟨RX1, "putTransition", "(IIII)I"⟩
abbrev cX1_causeOf : ByteArray := prog_3_method_4_code
def yX1_causeOf : MethodName := ⟨RX1, "causeOf", "(II)I"⟩
abbrev cX1_scopeOf : ByteArray := prog_3_method_5_code
def yX1_scopeOf : MethodName := ⟨RX1, "scopeOf", "(II)I"⟩
abbrev cX1_filled : ByteArray := prog_3_method_6_code
def yX1_filled : MethodName := ⟨RX1, "filled", "(I)I"⟩
abbrev cX1_enteredInto : ByteArray := prog_3_method_7_code
def yX1_enteredInto : MethodName := ⟨RX1, "enteredInto", "(II)I"⟩
abbrev cX1_partsAside : ByteArray := prog_3_method_8_code
def yX1_partsAside : MethodName := ⟨RX1, "partsAside", "(II)I"⟩
abbrev cX1_endedAmong : ByteArray := prog_3_method_9_code
def yX1_endedAmong : MethodName := ⟨RX1, "endedAmong", "(I)I"⟩
def RX2 : String := "PuppetTheatre$Look"
def TX2 : u_T := fun k => match k with
  | 0 => ("PuppetTheatre$Look", "row", "[I", true)
  | 1 => ("PuppetTheatre$Look", "rowLength", "I", false)
  | 2 => ("PuppetTheatre$Look", "lookedAt", "I", false)
  | 3 => ("PuppetTheatre$Look", "trial", "LPuppetTheatre$Play;", true)
  | 4 => ("PuppetTheatre$Look", "found", "[LPuppetTheatre$Situation;", true)
  | 5 => ("PuppetTheatre$Look", "origin", "[I", true)
  | 6 => ("PuppetTheatre$Look", "byCall", "[I", true)
  | 7 => ("PuppetTheatre$Look", "calls", "[I", true)
  | _ => ("PuppetTheatre$Look", "foundCount", "I", false)
def tyX2 : Nat → FieldType := fun k => match k with
  | 0 => .array .int
  | 1 => .int
  | 2 => .int
  | 3 => .object "PuppetTheatre$Play"
  | 4 => .array (.object "PuppetTheatre$Situation")
  | 5 => .array .int
  | 6 => .array .int
  | 7 => .array .int
  | _ => .int
abbrev wsX20 : List Cond := u_ws RX2 TX2 9
theorem nmX2 : ∀ a, a < 9 → ∀ b, b < 9 → a ≠ b → (TX2 a).2.1 ≠ (TX2 b).2.1 := by decide +kernel
theorem tyX2_ok : ∀ k, k < 9 → parseFieldDescriptor (TX2 k).2.2.1 = some (tyX2 k) := by decide +kernel
abbrev cX2_init : ByteArray := prog_4_method_1_code
def yX2_init : MethodName := ⟨RX2, "<init>", "(LPuppetTheatre$Play;)V"⟩
abbrev cX2_search : ByteArray := prog_4_method_2_code
def yX2_search : MethodName := ⟨RX2, "search", "(LPuppetTheatre$Situation;III)I"⟩
abbrev cX2_isReached : ByteArray := prog_4_method_3_code
def yX2_isReached : MethodName := ⟨RX2, "isReached", "(II)Z"⟩
abbrev cX2_keepIfNew : ByteArray := prog_4_method_4_code
def yX2_keepIfNew : MethodName := ⟨RX2, "keepIfNew", "(II)V"⟩
abbrev cX2_writeRow : ByteArray := prog_4_method_5_code
def yX2_writeRow : MethodName := ⟨RX2, "writeRow", "(II)V"⟩
def RX3 : String := "PuppetTheatre$Play"
def TX3 : u_T := fun k => match k with
  | 0 => ("PuppetTheatre$Play", "chart", "LPuppetTheatre$Chart;", true)
  | 1 => ("PuppetTheatre$Play", "situation", "LPuppetTheatre$Situation;", true)
  | 2 => ("PuppetTheatre$Play", "fired", "[I", true)
  | 3 => ("PuppetTheatre$Play", "firedLast", "I", false)
  | 4 => ("PuppetTheatre$Play", "clock", "I", false)
  | 5 => ("PuppetTheatre$Play", "lost", "I", false)
  | 6 => ("PuppetTheatre$Play", "restless", "I", false)
  | 7 => ("PuppetTheatre$Play", "queue", "[I", true)
  | 8 => ("PuppetTheatre$Play", "queued", "I", false)
  | 9 => ("PuppetTheatre$Play", "taken", "[I", true)
  | _ => ("PuppetTheatre$Play", "takenCount", "I", false)
def tyX3 : Nat → FieldType := fun k => match k with
  | 0 => .object "PuppetTheatre$Chart"
  | 1 => .object "PuppetTheatre$Situation"
  | 2 => .array .int
  | 3 => .int
  | 4 => .int
  | 5 => .int
  | 6 => .int
  | 7 => .array .int
  | 8 => .int
  | 9 => .array .int
  | _ => .int
abbrev wsX30 : List Cond := u_ws RX3 TX3 11
theorem nmX3 : ∀ a, a < 11 → ∀ b, b < 11 → a ≠ b → (TX3 a).2.1 ≠ (TX3 b).2.1 := by decide +kernel
theorem tyX3_ok : ∀ k, k < 11 → parseFieldDescriptor (TX3 k).2.2.1 = some (tyX3 k) := by decide +kernel
abbrev cX3_init : ByteArray := prog_5_method_1_code
def yX3_init : MethodName := ⟨RX3, "<init>", "(LPuppetTheatre$Chart;)V"⟩
abbrev cX3_reset : ByteArray := prog_5_method_2_code
def yX3_reset : MethodName := ⟨RX3, "reset", "()V"⟩
abbrev cX3_isAtEnd : ByteArray := prog_5_method_3_code
def yX3_isAtEnd : MethodName := ⟨RX3, "isAtEnd", "()Z"⟩
abbrev cX3_proceed : ByteArray := prog_5_method_4_code
def yX3_proceed : MethodName := ⟨RX3, "proceed", "(I)I"⟩
abbrev cX3_growOlder : ByteArray := prog_5_method_5_code
def yX3_growOlder : MethodName := ⟨RX3, "growOlder", "()V"⟩
abbrev cX3_raise : ByteArray := prog_5_method_6_code
def yX3_raise : MethodName := ⟨RX3, "raise", "(I)V"⟩
abbrev cX3_loseQueue : ByteArray := prog_5_method_7_code
def yX3_loseQueue : MethodName := ⟨RX3, "loseQueue", "()V"⟩
abbrev cX3_nextEvent : ByteArray := prog_5_method_8_code
def yX3_nextEvent : MethodName := ⟨RX3, "nextEvent", "()I"⟩
abbrev cX3_step : ByteArray := prog_5_method_9_code
def yX3_step : MethodName := ⟨RX3, "step", "(I)I"⟩
abbrev cX3_openBy : ByteArray := prog_5_method_10_code
def yX3_openBy : MethodName := ⟨RX3, "openBy", "(I)I"⟩
abbrev cX3_isOpen : ByteArray := prog_5_method_11_code
def yX3_isOpen : MethodName := ⟨RX3, "isOpen", "(LPuppetTheatre$Transition;I)Z"⟩
abbrev cX3_choose : ByteArray := prog_5_method_12_code
def yX3_choose : MethodName := ⟨RX3, "choose", "(I)V"⟩
abbrev cX3_nearestOpen : ByteArray := prog_5_method_13_code
def yX3_nearestOpen : MethodName := ⟨RX3, "nearestOpen", "(II)I"⟩
abbrev cX3_smallestOf : ByteArray := prog_5_method_14_code
def yX3_smallestOf : MethodName := ⟨RX3, "smallestOf", "(I)I"⟩
abbrev cX3_takeIfFree : ByteArray := prog_5_method_15_code
def yX3_takeIfFree : MethodName := ⟨RX3, "takeIfFree", "(I)V"⟩
abbrev cX3_leftBy : ByteArray := prog_5_method_16_code
def yX3_leftBy : MethodName := ⟨RX3, "leftBy", "(LPuppetTheatre$Transition;)I"⟩
abbrev cX3_makeRecords : ByteArray := prog_5_method_17_code
def yX3_makeRecords : MethodName := ⟨RX3, "makeRecords", "(I)V"⟩
abbrev cX3_leave : ByteArray := prog_5_method_18_code
def yX3_leave : MethodName := ⟨RX3, "leave", "(I)V"⟩
abbrev cX3_enter : ByteArray := prog_5_method_19_code
def yX3_enter : MethodName := ⟨RX3, "enter", "(I)V"⟩
abbrev cX3_targetsOf : ByteArray := prog_5_method_20_code
def yX3_targetsOf : MethodName := ⟨RX3, "targetsOf", "(LPuppetTheatre$Transition;)I"⟩
abbrev cX3_act : ByteArray := prog_5_method_21_code
def yX3_act : MethodName := ⟨RX3, "act", "(LPuppetTheatre$Action;)V"⟩
def RX4 : String := "PuppetTheatre$Situation"
def TX4 : u_T := fun k => match k with
  | 0 => ("PuppetTheatre$Situation", "ages", "[I", true)
  | 1 => ("PuppetTheatre$Situation", "records", "[I", true)
  | 2 => ("PuppetTheatre$Situation", "variables", "[I", true)
  | _ => ("PuppetTheatre$Situation", "active", "I", false)
def tyX4 : Nat → FieldType := fun k => match k with
  | 0 => .array .int
  | 1 => .array .int
  | 2 => .array .int
  | _ => .int
abbrev wsX40 : List Cond := u_ws RX4 TX4 4
theorem nmX4 : ∀ a, a < 4 → ∀ b, b < 4 → a ≠ b → (TX4 a).2.1 ≠ (TX4 b).2.1 := by decide +kernel
theorem tyX4_ok : ∀ k, k < 4 → parseFieldDescriptor (TX4 k).2.2.1 = some (tyX4 k) := by decide +kernel
abbrev cX4_init : ByteArray := prog_6_method_1_code
def yX4_init : MethodName := ⟨RX4, "<init>", "()V"⟩
abbrev cX4_deactivate : ByteArray := prog_6_method_2_code
def yX4_deactivate : MethodName := ⟨RX4, "deactivate", "()V"⟩
abbrev cX4_clear : ByteArray := prog_6_method_3_code
def yX4_clear : MethodName := ⟨RX4, "clear", "()V"⟩
abbrev cX4_add : ByteArray := prog_6_method_4_code
def yX4_add : MethodName := ⟨RX4, "add", "(II)V"⟩
abbrev cX4_copyFrom : ByteArray := prog_6_method_5_code
def yX4_copyFrom : MethodName := ⟨RX4, "copyFrom", "(LPuppetTheatre$Situation;)V"⟩
abbrev cX4_isSameAs : ByteArray := prog_6_method_6_code
def yX4_isSameAs : MethodName := ⟨RX4, "isSameAs", "(LPuppetTheatre$Situation;)Z"⟩
def RX5 : String := "PuppetTheatre$State"
def TX5 : u_T := fun k => match k with
  | 0 => ("PuppetTheatre$State", "entering", "LPuppetTheatre$Action;", true)
  | 1 => ("PuppetTheatre$State", "leaving", "LPuppetTheatre$Action;", true)
  | 2 => ("PuppetTheatre$State", "kind", "I", false)
  | 3 => ("PuppetTheatre$State", "parent", "I", false)
  | 4 => ("PuppetTheatre$State", "first", "I", false)
  | 5 => ("PuppetTheatre$State", "parts", "I", false)
  | 6 => ("PuppetTheatre$State", "filledWith", "I", false)
  | 7 => ("PuppetTheatre$State", "beneath", "I", false)
  | _ => ("PuppetTheatre$State", "departing", "I", false)
def tyX5 : Nat → FieldType := fun k => match k with
  | 0 => .object "PuppetTheatre$Action"
  | 1 => .object "PuppetTheatre$Action"
  | 2 => .int
  | 3 => .int
  | 4 => .int
  | 5 => .int
  | 6 => .int
  | 7 => .int
  | _ => .int
abbrev wsX50 : List Cond := u_ws RX5 TX5 9
theorem nmX5 : ∀ a, a < 9 → ∀ b, b < 9 → a ≠ b → (TX5 a).2.1 ≠ (TX5 b).2.1 := by decide +kernel
theorem tyX5_ok : ∀ k, k < 9 → parseFieldDescriptor (TX5 k).2.2.1 = some (tyX5 k) := by decide +kernel
abbrev cX5_init : ByteArray := prog_7_method_1_code
def yX5_init : MethodName := ⟨RX5, "<init>", "()V"⟩
abbrev cX5_isMark : ByteArray := prog_7_method_2_code
def yX5_isMark : MethodName := ⟨RX5, "isMark", "()Z"⟩
abbrev cX5_isHolder : ByteArray := prog_7_method_3_code
def yX5_isHolder : MethodName := ⟨RX5, "isHolder", "()Z"⟩
abbrev cX5_putFirst : ByteArray := prog_7_method_4_code
def yX5_putFirst : MethodName := ⟨RX5, "putFirst", "(I)V"⟩
abbrev cX5_putPart : ByteArray := prog_7_method_5_code
def yX5_putPart : MethodName := ⟨RX5, "putPart", "(I)V"⟩
def RX6 : String := "PuppetTheatre$Transition"
def TX6 : u_T := fun k => match k with
  | 0 => ("PuppetTheatre$Transition", "action", "LPuppetTheatre$Action;", true)
  | 1 => ("PuppetTheatre$Transition", "from", "I", false)
  | 2 => ("PuppetTheatre$Transition", "trigger", "I", false)
  | 3 => ("PuppetTheatre$Transition", "n", "I", false)
  | 4 => ("PuppetTheatre$Transition", "to", "I", false)
  | 5 => ("PuppetTheatre$Transition", "scope", "I", false)
  | 6 => ("PuppetTheatre$Transition", "how", "I", false)
  | 7 => ("PuppetTheatre$Transition", "variable", "I", false)
  | _ => ("PuppetTheatre$Transition", "bound", "I", false)
def tyX6 : Nat → FieldType := fun k => match k with
  | 0 => .object "PuppetTheatre$Action"
  | 1 => .int
  | 2 => .int
  | 3 => .int
  | 4 => .int
  | 5 => .int
  | 6 => .int
  | 7 => .int
  | _ => .int
abbrev wsX60 : List Cond := u_ws RX6 TX6 9
theorem nmX6 : ∀ a, a < 9 → ∀ b, b < 9 → a ≠ b → (TX6 a).2.1 ≠ (TX6 b).2.1 := by decide +kernel
theorem tyX6_ok : ∀ k, k < 9 → parseFieldDescriptor (TX6 k).2.2.1 = some (tyX6 k) := by decide +kernel
abbrev cX6_init : ByteArray := prog_8_method_1_code
def yX6_init : MethodName := ⟨RX6, "<init>", "()V"⟩
abbrev cX6_isAllowed : ByteArray := prog_8_method_2_code
def yX6_isAllowed : MethodName := ⟨RX6, "isAllowed", "([I)Z"⟩
def RX7 : String := "PuppetTheatre"
def TX7 : u_T := fun k => match k with
  | 0 => ("PuppetTheatre", "chart", "LPuppetTheatre$Chart;", true)
  | 1 => ("PuppetTheatre", "play", "LPuppetTheatre$Play;", true)
  | 2 => ("PuppetTheatre", "trial", "LPuppetTheatre$Play;", true)
  | 3 => ("PuppetTheatre", "look", "LPuppetTheatre$Look;", true)
  | _ => ("PuppetTheatre", "running", "Z", false)
def tyX7 : Nat → FieldType := fun k => match k with
  | 0 => .object "PuppetTheatre$Chart"
  | 1 => .object "PuppetTheatre$Play"
  | 2 => .object "PuppetTheatre$Play"
  | 3 => .object "PuppetTheatre$Look"
  | _ => .boolean
abbrev wsX70 : List Cond := u_ws RX7 TX7 5
theorem nmX7 : ∀ a, a < 5 → ∀ b, b < 5 → a ≠ b → (TX7 a).2.1 ≠ (TX7 b).2.1 := by decide +kernel
theorem tyX7_ok : ∀ k, k < 5 → parseFieldDescriptor (TX7 k).2.2.1 = some (tyX7 k) := by decide +kernel
abbrev cX7_init : ByteArray := prog_1_method_1_code
def yX7_init : MethodName := ⟨RX7, "<init>", "()V"⟩
abbrev cX7_addState : ByteArray := prog_1_method_2_code
def yX7_addState : MethodName := ⟨RX7, "addState", "(II)I"⟩
abbrev cX7_setFirst : ByteArray := prog_1_method_3_code
def yX7_setFirst : MethodName := ⟨RX7, "setFirst", "(II)I"⟩
abbrev cX7_setDoing : ByteArray := prog_1_method_4_code
def yX7_setDoing : MethodName := ⟨RX7, "setDoing", "(IZIII)I"⟩
abbrev cX7_addTransition : ByteArray := prog_1_method_5_code
def yX7_addTransition : MethodName := ⟨RX7, "addTransition", "(IIII)I"⟩
abbrev cX7_setGuard : ByteArray := prog_1_method_6_code
def yX7_setGuard : MethodName := ⟨RX7, "setGuard", "(IIII)I"⟩
abbrev cX7_setAction : ByteArray := prog_1_method_7_code
def yX7_setAction : MethodName := ⟨RX7, "setAction", "(IIII)I"⟩
abbrev cX7_start : ByteArray := prog_1_method_8_code
def yX7_start : MethodName := ⟨RX7, "start", "()I"⟩
abbrev cX7_stop : ByteArray := prog_1_method_9_code
def yX7_stop : MethodName := ⟨RX7, "stop", "()I"⟩
abbrev cX7_send : ByteArray := prog_1_method_10_code
def yX7_send : MethodName := ⟨RX7, "send", "(I)I"⟩
abbrev cX7_tick : ByteArray := prog_1_method_11_code
def yX7_tick : MethodName := ⟨RX7, "tick", "(I)I"⟩
abbrev cX7_states : ByteArray := prog_1_method_12_code
def yX7_states : MethodName := ⟨RX7, "states", "()I"⟩
abbrev cX7_transitions : ByteArray := prog_1_method_13_code
def yX7_transitions : MethodName := ⟨RX7, "transitions", "()I"⟩
abbrev cX7_ofState : ByteArray := prog_1_method_14_code
def yX7_ofState : MethodName := ⟨RX7, "ofState", "(II)I"⟩
abbrev cX7_isRunning : ByteArray := prog_1_method_15_code
def yX7_isRunning : MethodName := ⟨RX7, "isRunning", "()Z"⟩
abbrev cX7_active : ByteArray := prog_1_method_16_code
def yX7_active : MethodName := ⟨RX7, "active", "()I"⟩
abbrev cX7_isOver : ByteArray := prog_1_method_17_code
def yX7_isOver : MethodName := ⟨RX7, "isOver", "()Z"⟩
abbrev cX7_isEnded : ByteArray := prog_1_method_18_code
def yX7_isEnded : MethodName := ⟨RX7, "isEnded", "(I)Z"⟩
abbrev cX7_ageOf : ByteArray := prog_1_method_19_code
def yX7_ageOf : MethodName := ⟨RX7, "ageOf", "(I)I"⟩
abbrev cX7_record : ByteArray := prog_1_method_20_code
def yX7_record : MethodName := ⟨RX7, "record", "(I)I"⟩
abbrev cX7_variable : ByteArray := prog_1_method_21_code
def yX7_variable : MethodName := ⟨RX7, "variable", "(I)I"⟩
abbrev cX7_clock : ByteArray := prog_1_method_22_code
def yX7_clock : MethodName := ⟨RX7, "clock", "()I"⟩
abbrev cX7_fired : ByteArray := prog_1_method_23_code
def yX7_fired : MethodName := ⟨RX7, "fired", "(I)I"⟩
abbrev cX7_covered : ByteArray := prog_1_method_24_code
def yX7_covered : MethodName := ⟨RX7, "covered", "()I"⟩
abbrev cX7_lost : ByteArray := prog_1_method_25_code
def yX7_lost : MethodName := ⟨RX7, "lost", "()I"⟩
abbrev cX7_restless : ByteArray := prog_1_method_26_code
def yX7_restless : MethodName := ⟨RX7, "restless", "()I"⟩
abbrev cX7_wouldFire : ByteArray := prog_1_method_27_code
def yX7_wouldFire : MethodName := ⟨RX7, "wouldFire", "(I)I"⟩
abbrev cX7_wouldBe : ByteArray := prog_1_method_28_code
def yX7_wouldBe : MethodName := ⟨RX7, "wouldBe", "(I)I"⟩
abbrev cX7_open : ByteArray := prog_1_method_29_code
def yX7_open : MethodName := ⟨RX7, "open", "()I"⟩
abbrev cX7_rowTo : ByteArray := prog_1_method_30_code
def yX7_rowTo : MethodName := ⟨RX7, "rowTo", "(II)I"⟩
abbrev cX7_rowFor : ByteArray := prog_1_method_31_code
def yX7_rowFor : MethodName := ⟨RX7, "rowFor", "(II)I"⟩
abbrev cX7_rowAt : ByteArray := prog_1_method_32_code
def yX7_rowAt : MethodName := ⟨RX7, "rowAt", "(I)I"⟩
abbrev cX7_looked : ByteArray := prog_1_method_33_code
def yX7_looked : MethodName := ⟨RX7, "looked", "()I"⟩
abbrev cX7_meanAge : ByteArray := prog_1_method_34_code
def yX7_meanAge : MethodName := ⟨RX7, "meanAge", "()D"⟩
abbrev cX7_digest : ByteArray := prog_1_method_35_code
def yX7_digest : MethodName := ⟨RX7, "digest", "()J"⟩
abbrev cX7_digestOfStates : ByteArray := prog_1_method_36_code
def yX7_digestOfStates : MethodName := ⟨RX7, "digestOfStates", "(J)J"⟩
abbrev cX7_checkResting : ByteArray := prog_1_method_37_code
def yX7_checkResting : MethodName := ⟨RX7, "checkResting", "()V"⟩
abbrev cX7_checkRunning : ByteArray := prog_1_method_38_code
def yX7_checkRunning : MethodName := ⟨RX7, "checkRunning", "()V"⟩
abbrev cX7_checkState : ByteArray := prog_1_method_39_code
def yX7_checkState : MethodName := ⟨RX7, "checkState", "(I)V"⟩
abbrev cX7_checkTransition : ByteArray := prog_1_method_40_code
def yX7_checkTransition : MethodName := ⟨RX7, "checkTransition", "(I)V"⟩
abbrev cX7_checkEvent : ByteArray := prog_1_method_41_code
def yX7_checkEvent : MethodName := ⟨RX7, "checkEvent", "(I)V"⟩
abbrev cX7_checkMost : ByteArray := prog_1_method_42_code
def yX7_checkMost : MethodName := ⟨RX7, "checkMost", "(I)V"⟩
abbrev cX7_isTrigger : ByteArray := prog_1_method_43_code
def yX7_isTrigger : MethodName := ⟨RX7, "isTrigger", "(II)Z"⟩
abbrev cX7_isGuard : ByteArray := prog_1_method_44_code
def yX7_isGuard : MethodName := ⟨RX7, "isGuard", "(III)Z"⟩
abbrev cX7_isAction : ByteArray := prog_1_method_45_code
def yX7_isAction : MethodName := ⟨RX7, "isAction", "(III)Z"⟩
abbrev cX7_isNumber : ByteArray := prog_1_method_46_code
def yX7_isNumber : MethodName := ⟨RX7, "isNumber", "(I)Z"⟩
abbrev cX7_isWithin : ByteArray := prog_1_method_47_code
def yX7_isWithin : MethodName := ⟨RX7, "isWithin", "(III)Z"⟩
abbrev cX7_setOf : ByteArray := prog_1_method_48_code
def yX7_setOf : MethodName := ⟨RX7, "setOf", "(I)I"⟩
abbrev cX7_has : ByteArray := prog_1_method_49_code
def yX7_has : MethodName := ⟨RX7, "has", "(II)Z"⟩
def RX8 : String := "PuppetTheatreModel$Chart"
def TX8 : u_T := fun k => match k with
  | 0 => ("PuppetTheatreModel$Chart", "states", "Ljava/util/ArrayList;", true)
  | _ => ("PuppetTheatreModel$Chart", "transitions", "Ljava/util/ArrayList;", true)
def tyX8 : Nat → FieldType := fun k => match k with
  | 0 => .object "java/util/ArrayList"
  | _ => .object "java/util/ArrayList"
abbrev wsX80 : List Cond := u_ws RX8 TX8 2
theorem nmX8 : ∀ a, a < 2 → ∀ b, b < 2 → a ≠ b → (TX8 a).2.1 ≠ (TX8 b).2.1 := by decide +kernel
theorem tyX8_ok : ∀ k, k < 2 → parseFieldDescriptor (TX8 k).2.2.1 = some (tyX8 k) := by decide +kernel
abbrev cX8_init : ByteArray := prog_11_method_1_code
def yX8_init : MethodName := ⟨RX8, "<init>", "()V"⟩
abbrev cX8_parent : ByteArray := prog_11_method_2_code
def yX8_parent : MethodName := ⟨RX8, "parent", "(I)I"⟩
abbrev cX8_kind : ByteArray := prog_11_method_3_code
def yX8_kind : MethodName := ⟨RX8, "kind", "(I)I"⟩
abbrev cX8_parts : ByteArray := prog_11_method_4_code
def yX8_parts : MethodName := ⟨RX8, "parts", "(I)I"⟩
abbrev cX8_isLeaf : ByteArray := prog_11_method_5_code
def yX8_isLeaf : MethodName := ⟨RX8, "isLeaf", "(I)Z"⟩
abbrev cX8_first : ByteArray := prog_11_method_6_code
def yX8_first : MethodName := ⟨RX8, "first", "(I)I"⟩
abbrev cX8_isBeneath : ByteArray := prog_11_method_7_code
def yX8_isBeneath : MethodName := ⟨RX8, "isBeneath", "(II)Z"⟩
abbrev cX8_beneath : ByteArray := prog_11_method_8_code
def yX8_beneath : MethodName := ⟨RX8, "beneath", "(I)I"⟩
abbrev cX8_scope : ByteArray := prog_11_method_9_code
def yX8_scope : MethodName := ⟨RX8, "scope", "(LPuppetTheatreModel$Transition;)I"⟩
abbrev cX8_filled : ByteArray := prog_11_method_10_code
def yX8_filled : MethodName := ⟨RX8, "filled", "(I)I"⟩
abbrev cX8_into : ByteArray := prog_11_method_11_code
def yX8_into : MethodName := ⟨RX8, "into", "(II)I"⟩
def RX9 : String := "PuppetTheatreModel$Run"
def TX9 : u_T := fun k => match k with
  | 0 => ("PuppetTheatreModel$Run", "isRunning", "Z", false)
  | 1 => ("PuppetTheatreModel$Run", "active", "I", false)
  | 2 => ("PuppetTheatreModel$Run", "ages", "[I", true)
  | 3 => ("PuppetTheatreModel$Run", "records", "[I", true)
  | 4 => ("PuppetTheatreModel$Run", "variables", "[I", true)
  | 5 => ("PuppetTheatreModel$Run", "fired", "[I", true)
  | 6 => ("PuppetTheatreModel$Run", "queue", "Ljava/util/ArrayList;", false)
  | 7 => ("PuppetTheatreModel$Run", "clock", "I", false)
  | 8 => ("PuppetTheatreModel$Run", "lost", "I", false)
  | 9 => ("PuppetTheatreModel$Run", "restless", "I", false)
  | _ => ("PuppetTheatreModel$Run", "this$0", "LPuppetTheatreModel;", true)
def tyX9 : Nat → FieldType := fun k => match k with
  | 0 => .boolean
  | 1 => .int
  | 2 => .array .int
  | 3 => .array .int
  | 4 => .array .int
  | 5 => .array .int
  | 6 => .object "java/util/ArrayList"
  | 7 => .int
  | 8 => .int
  | 9 => .int
  | _ => .object "PuppetTheatreModel"
abbrev wsX90 : List Cond := u_ws RX9 TX9 11
theorem nmX9 : ∀ a, a < 11 → ∀ b, b < 11 → a ≠ b → (TX9 a).2.1 ≠ (TX9 b).2.1 := by decide +kernel
theorem tyX9_ok : ∀ k, k < 11 → parseFieldDescriptor (TX9 k).2.2.1 = some (tyX9 k) := by decide +kernel
abbrev cX9_init : ByteArray := prog_12_method_1_code
def yX9_init : MethodName := ⟨RX9, "<init>", "(LPuppetTheatreModel;)V"⟩
abbrev cX9_copy : ByteArray := prog_12_method_2_code
def yX9_copy : MethodName := ⟨RX9, "copy", "()LPuppetTheatreModel$Run;"⟩
abbrev cX9_isSame : ByteArray := prog_12_method_3_code
def yX9_isSame : MethodName := ⟨RX9, "isSame", "(LPuppetTheatreModel$Run;)Z"⟩
abbrev cX9_isOver : ByteArray := prog_12_method_4_code
def yX9_isOver : MethodName := ⟨RX9, "isOver", "()Z"⟩
abbrev cX9_isEnded : ByteArray := prog_12_method_5_code
def yX9_isEnded : MethodName := ⟨RX9, "isEnded", "(I)Z"⟩
abbrev cX9_act : ByteArray := prog_12_method_6_code
def yX9_act : MethodName := ⟨RX9, "act", "([I)V"⟩
abbrev cX9_enter : ByteArray := prog_12_method_7_code
def yX9_enter : MethodName := ⟨RX9, "enter", "(I)V"⟩
abbrev cX9_holds : ByteArray := prog_12_method_8_code
def yX9_holds : MethodName := ⟨RX9, "holds", "([I)Z"⟩
abbrev cX9_isOpen : ByteArray := prog_12_method_9_code
def yX9_isOpen : MethodName := ⟨RX9, "isOpen", "(LPuppetTheatreModel$Transition;II)Z"⟩
abbrev cX9_chosen : ByteArray := prog_12_method_10_code
def yX9_chosen : MethodName := ⟨RX9, "chosen", "(III)I"⟩
abbrev cX9_leaves : ByteArray := prog_12_method_11_code
def yX9_leaves : MethodName := ⟨RX9, "leaves", "(I)I"⟩
abbrev cX9_taken : ByteArray := prog_12_method_12_code
def yX9_taken : MethodName := ⟨RX9, "taken", "(II)Ljava/util/ArrayList;"⟩
abbrev cX9_step : ByteArray := prog_12_method_13_code
def yX9_step : MethodName := ⟨RX9, "step", "(II)I"⟩
abbrev cX9_activeLeaves : ByteArray := prog_12_method_14_code
def yX9_activeLeaves : MethodName := ⟨RX9, "activeLeaves", "(I)I"⟩
abbrev cX9_into : ByteArray := prog_12_method_15_code
def yX9_into : MethodName := ⟨RX9, "into", "(LPuppetTheatreModel$Transition;)I"⟩
abbrev cX9_settle : ByteArray := prog_12_method_16_code
def yX9_settle : MethodName := ⟨RX9, "settle", "(I)I"⟩
abbrev cX9_start : ByteArray := prog_12_method_17_code
def yX9_start : MethodName := ⟨RX9, "start", "()I"⟩
abbrev cX9_send : ByteArray := prog_12_method_18_code
def yX9_send : MethodName := ⟨RX9, "send", "(I)I"⟩
abbrev cX9_tick : ByteArray := prog_12_method_19_code
def yX9_tick : MethodName := ⟨RX9, "tick", "()I"⟩
abbrev cX9_call : ByteArray := prog_12_method_20_code
def yX9_call : MethodName := ⟨RX9, "call", "(I)V"⟩
def RX10 : String := "PuppetTheatreModel$State"
def TX10 : u_T := fun k => match k with
  | 0 => ("PuppetTheatreModel$State", "parent", "I", true)
  | 1 => ("PuppetTheatreModel$State", "kind", "I", true)
  | 2 => ("PuppetTheatreModel$State", "first", "I", false)
  | 3 => ("PuppetTheatreModel$State", "entering", "[I", false)
  | _ => ("PuppetTheatreModel$State", "leaving", "[I", false)
def tyX10 : Nat → FieldType := fun k => match k with
  | 0 => .int
  | 1 => .int
  | 2 => .int
  | 3 => .array .int
  | _ => .array .int
abbrev wsX100 : List Cond := u_ws RX10 TX10 5
theorem nmX10 : ∀ a, a < 5 → ∀ b, b < 5 → a ≠ b → (TX10 a).2.1 ≠ (TX10 b).2.1 := by decide +kernel
theorem tyX10_ok : ∀ k, k < 5 → parseFieldDescriptor (TX10 k).2.2.1 = some (tyX10 k) := by decide +kernel
abbrev cX10_init : ByteArray := prog_13_method_1_code
def yX10_init : MethodName := ⟨RX10, "<init>", "(II)V"⟩
abbrev cX10_isMark : ByteArray := prog_13_method_2_code
def yX10_isMark : MethodName := ⟨RX10, "isMark", "()Z"⟩
abbrev cX10_isOpen : ByteArray := prog_13_method_3_code
def yX10_isOpen : MethodName := ⟨RX10, "isOpen", "()Z"⟩
def RX11 : String := "PuppetTheatreModel$Transition"
def TX11 : u_T := fun k => match k with
  | 0 => ("PuppetTheatreModel$Transition", "from", "I", true)
  | 1 => ("PuppetTheatreModel$Transition", "trigger", "I", true)
  | 2 => ("PuppetTheatreModel$Transition", "n", "I", true)
  | 3 => ("PuppetTheatreModel$Transition", "to", "I", true)
  | 4 => ("PuppetTheatreModel$Transition", "guard", "[I", false)
  | _ => ("PuppetTheatreModel$Transition", "action", "[I", false)
def tyX11 : Nat → FieldType := fun k => match k with
  | 0 => .int
  | 1 => .int
  | 2 => .int
  | 3 => .int
  | 4 => .array .int
  | _ => .array .int
abbrev wsX110 : List Cond := u_ws RX11 TX11 6
theorem nmX11 : ∀ a, a < 6 → ∀ b, b < 6 → a ≠ b → (TX11 a).2.1 ≠ (TX11 b).2.1 := by decide +kernel
theorem tyX11_ok : ∀ k, k < 6 → parseFieldDescriptor (TX11 k).2.2.1 = some (tyX11 k) := by decide +kernel
abbrev cX11_init : ByteArray := prog_14_method_1_code
def yX11_init : MethodName := ⟨RX11, "<init>", "(IIII)V"⟩
def RX12 : String := "PuppetTheatreModel"
def TX12 : u_T := fun k => match k with
  | 0 => ("PuppetTheatreModel", "thrown", "I", false)
  | 1 => ("PuppetTheatreModel", "chart", "LPuppetTheatreModel$Chart;", true)
  | 2 => ("PuppetTheatreModel", "run", "LPuppetTheatreModel$Run;", true)
  | 3 => ("PuppetTheatreModel", "row", "[I", false)
  | _ => ("PuppetTheatreModel", "looked", "I", false)
def tyX12 : Nat → FieldType := fun k => match k with
  | 0 => .int
  | 1 => .object "PuppetTheatreModel$Chart"
  | 2 => .object "PuppetTheatreModel$Run"
  | 3 => .array .int
  | _ => .int
abbrev wsX120 : List Cond := u_ws RX12 TX12 5
theorem nmX12 : ∀ a, a < 5 → ∀ b, b < 5 → a ≠ b → (TX12 a).2.1 ≠ (TX12 b).2.1 := by decide +kernel
theorem tyX12_ok : ∀ k, k < 5 → parseFieldDescriptor (TX12 k).2.2.1 = some (tyX12 k) := by decide +kernel
abbrev cX12_has : ByteArray := prog_10_method_1_code
def yX12_has : MethodName := ⟨RX12, "has", "(II)Z"⟩
abbrev cX12_init : ByteArray := prog_10_method_2_code
def yX12_init : MethodName := ⟨RX12, "<init>", "()V"⟩
abbrev cX12_thrown : ByteArray := prog_10_method_3_code
def yX12_thrown : MethodName := ⟨RX12, "thrown", "()I"⟩
abbrev cX12_isIn : ByteArray := prog_10_method_4_code
def yX12_isIn : MethodName := ⟨RX12, "isIn", "(III)Z"⟩
abbrev cX12_refuse : ByteArray := prog_10_method_5_code
def yX12_refuse : MethodName := ⟨RX12, "refuse", "(ZI)Z"⟩
abbrev cX12_start : ByteArray := prog_10_method_6_code
def yX12_start : MethodName := ⟨RX12, "start", "(ZI)Z"⟩
abbrev cX12_plain : ByteArray := prog_10_method_7_code
def yX12_plain : MethodName := ⟨RX12, "plain", "(I)I"⟩
abbrev cX12_isNoState : ByteArray := prog_10_method_8_code
def yX12_isNoState : MethodName := ⟨RX12, "isNoState", "(I)Z"⟩
abbrev cX12_isNoTransition : ByteArray := prog_10_method_9_code
def yX12_isNoTransition : MethodName := ⟨RX12, "isNoTransition", "(I)Z"⟩
abbrev cX12_addState : ByteArray := prog_10_method_10_code
def yX12_addState : MethodName := ⟨RX12, "addState", "(II)I"⟩
abbrev cX12_setFirst : ByteArray := prog_10_method_11_code
def yX12_setFirst : MethodName := ⟨RX12, "setFirst", "(II)I"⟩
abbrev cX12_isNoAction : ByteArray := prog_10_method_12_code
def yX12_isNoAction : MethodName := ⟨RX12, "isNoAction", "(III)Z"⟩
abbrev cX12_setDoing : ByteArray := prog_10_method_13_code
def yX12_setDoing : MethodName := ⟨RX12, "setDoing", "(IZIII)I"⟩
abbrev cX12_addTransition : ByteArray := prog_10_method_14_code
def yX12_addTransition : MethodName := ⟨RX12, "addTransition", "(IIII)I"⟩
abbrev cX12_setGuard : ByteArray := prog_10_method_15_code
def yX12_setGuard : MethodName := ⟨RX12, "setGuard", "(IIII)I"⟩
abbrev cX12_setAction : ByteArray := prog_10_method_16_code
def yX12_setAction : MethodName := ⟨RX12, "setAction", "(IIII)I"⟩
abbrev cX12_start_ : ByteArray := prog_10_method_17_code
def yX12_start_ : MethodName := ⟨RX12, "start", "()I"⟩
abbrev cX12_stop : ByteArray := prog_10_method_18_code
def yX12_stop : MethodName := ⟨RX12, "stop", "()I"⟩
abbrev cX12_send : ByteArray := prog_10_method_19_code
def yX12_send : MethodName := ⟨RX12, "send", "(I)I"⟩
abbrev cX12_tick : ByteArray := prog_10_method_20_code
def yX12_tick : MethodName := ⟨RX12, "tick", "(I)I"⟩
abbrev cX12_states : ByteArray := prog_10_method_21_code
def yX12_states : MethodName := ⟨RX12, "states", "()I"⟩
abbrev cX12_transitions : ByteArray := prog_10_method_22_code
def yX12_transitions : MethodName := ⟨RX12, "transitions", "()I"⟩
abbrev cX12_of : ByteArray := prog_10_method_23_code
def yX12_of : MethodName := ⟨RX12, "of", "(II)I"⟩
abbrev cX12_ofState : ByteArray := prog_10_method_24_code
def yX12_ofState : MethodName := ⟨RX12, "ofState", "(II)I"⟩
abbrev cX12_isRunning : ByteArray := prog_10_method_25_code
def yX12_isRunning : MethodName := ⟨RX12, "isRunning", "()Z"⟩
abbrev cX12_active : ByteArray := prog_10_method_26_code
def yX12_active : MethodName := ⟨RX12, "active", "()I"⟩
abbrev cX12_isOver : ByteArray := prog_10_method_27_code
def yX12_isOver : MethodName := ⟨RX12, "isOver", "()Z"⟩
abbrev cX12_isEnded : ByteArray := prog_10_method_28_code
def yX12_isEnded : MethodName := ⟨RX12, "isEnded", "(I)Z"⟩
abbrev cX12_age : ByteArray := prog_10_method_29_code
def yX12_age : MethodName := ⟨RX12, "age", "(I)I"⟩
abbrev cX12_ageOf : ByteArray := prog_10_method_30_code
def yX12_ageOf : MethodName := ⟨RX12, "ageOf", "(I)I"⟩
abbrev cX12_record : ByteArray := prog_10_method_31_code
def yX12_record : MethodName := ⟨RX12, "record", "(I)I"⟩
abbrev cX12_variable : ByteArray := prog_10_method_32_code
def yX12_variable : MethodName := ⟨RX12, "variable", "(I)I"⟩
abbrev cX12_clock : ByteArray := prog_10_method_33_code
def yX12_clock : MethodName := ⟨RX12, "clock", "()I"⟩
abbrev cX12_fired : ByteArray := prog_10_method_34_code
def yX12_fired : MethodName := ⟨RX12, "fired", "(I)I"⟩
abbrev cX12_covers : ByteArray := prog_10_method_35_code
def yX12_covers : MethodName := ⟨RX12, "covers", "()I"⟩
abbrev cX12_covered : ByteArray := prog_10_method_36_code
def yX12_covered : MethodName := ⟨RX12, "covered", "()I"⟩
abbrev cX12_lost : ByteArray := prog_10_method_37_code
def yX12_lost : MethodName := ⟨RX12, "lost", "()I"⟩
abbrev cX12_restless : ByteArray := prog_10_method_38_code
def yX12_restless : MethodName := ⟨RX12, "restless", "()I"⟩
abbrev cX12_isNoEvent : ByteArray := prog_10_method_39_code
def yX12_isNoEvent : MethodName := ⟨RX12, "isNoEvent", "(I)Z"⟩
abbrev cX12_wouldFire : ByteArray := prog_10_method_40_code
def yX12_wouldFire : MethodName := ⟨RX12, "wouldFire", "(I)I"⟩
abbrev cX12_wouldBe : ByteArray := prog_10_method_41_code
def yX12_wouldBe : MethodName := ⟨RX12, "wouldBe", "(I)I"⟩
abbrev cX12_open : ByteArray := prog_10_method_42_code
def yX12_open : MethodName := ⟨RX12, "open", "()I"⟩
abbrev cX12_look : ByteArray := prog_10_method_43_code
def yX12_look : MethodName := ⟨RX12, "look", "(III)I"⟩
abbrev cX12_rowTo : ByteArray := prog_10_method_44_code
def yX12_rowTo : MethodName := ⟨RX12, "rowTo", "(II)I"⟩
abbrev cX12_rowFor : ByteArray := prog_10_method_45_code
def yX12_rowFor : MethodName := ⟨RX12, "rowFor", "(II)I"⟩
abbrev cX12_rowed : ByteArray := prog_10_method_46_code
def yX12_rowed : MethodName := ⟨RX12, "rowed", "(I)I"⟩
abbrev cX12_rowAt : ByteArray := prog_10_method_47_code
def yX12_rowAt : MethodName := ⟨RX12, "rowAt", "(I)I"⟩
abbrev cX12_looked : ByteArray := prog_10_method_48_code
def yX12_looked : MethodName := ⟨RX12, "looked", "()I"⟩
abbrev cX12_meanAge : ByteArray := prog_10_method_49_code
def yX12_meanAge : MethodName := ⟨RX12, "meanAge", "()D"⟩
abbrev cX12_add : ByteArray := prog_10_method_50_code
def yX12_add : MethodName := ⟨RX12, "add", "(JJ)J"⟩
abbrev cX12_digest : ByteArray := prog_10_method_51_code
def yX12_digest : MethodName := ⟨RX12, "digest", "()J"⟩
def RJx145de : String := "java/io/Serializable"
def TJx145de : u_T := fun k => match k with
  | _ => ("", "", "", false)
def tyJx145de : Nat → FieldType := fun k => match k with
  | _ => .int
abbrev wsJx145de0 : List Cond := u_ws RJx145de TJx145de 0
theorem nmJx145de : ∀ a, a < 0 → ∀ b, b < 0 → a ≠ b → (TJx145de a).2.1 ≠ (TJx145de b).2.1 := by decide +kernel
theorem tyJx145de_ok : ∀ k, k < 0 → parseFieldDescriptor (TJx145de k).2.2.1 = some (tyJx145de k) := by decide +kernel
def RJx8e188 : String := "java/lang/Cloneable"
def TJx8e188 : u_T := fun k => match k with
  | _ => ("", "", "", false)
def tyJx8e188 : Nat → FieldType := fun k => match k with
  | _ => .int
abbrev wsJx8e1880 : List Cond := u_ws RJx8e188 TJx8e188 0
theorem nmJx8e188 : ∀ a, a < 0 → ∀ b, b < 0 → a ≠ b → (TJx8e188 a).2.1 ≠ (TJx8e188 b).2.1 := by decide +kernel
theorem tyJx8e188_ok : ∀ k, k < 0 → parseFieldDescriptor (TJx8e188 k).2.2.1 = some (tyJx8e188 k) := by decide +kernel
def RJxb160c : String := "java/lang/Comparable"
def TJxb160c : u_T := fun k => match k with
  | _ => ("", "", "", false)
def tyJxb160c : Nat → FieldType := fun k => match k with
  | _ => .int
abbrev wsJxb160c0 : List Cond := u_ws RJxb160c TJxb160c 0
theorem nmJxb160c : ∀ a, a < 0 → ∀ b, b < 0 → a ≠ b → (TJxb160c a).2.1 ≠ (TJxb160c b).2.1 := by decide +kernel
theorem tyJxb160c_ok : ∀ k, k < 0 → parseFieldDescriptor (TJxb160c k).2.2.1 = some (tyJxb160c k) := by decide +kernel
def RJxabbfe : String := "java/lang/Integer$IntegerCache"
def TJxabbfe : u_T := fun k => match k with
  | _ => ("", "", "", false)
def tyJxabbfe : Nat → FieldType := fun k => match k with
  | _ => .int
abbrev wsJxabbfe0 : List Cond := u_ws RJxabbfe TJxabbfe 0
theorem nmJxabbfe : ∀ a, a < 0 → ∀ b, b < 0 → a ≠ b → (TJxabbfe a).2.1 ≠ (TJxabbfe b).2.1 := by decide +kernel
theorem tyJxabbfe_ok : ∀ k, k < 0 → parseFieldDescriptor (TJxabbfe k).2.2.1 = some (tyJxabbfe k) := by decide +kernel
def RJ6 : String := "java/lang/Integer"
def TJ6 : u_T := fun k => match k with
  | _ => ("java/lang/Integer", "value", "I", true)
def tyJ6 : Nat → FieldType := fun k => match k with
  | _ => .int
abbrev wsJ60 : List Cond := u_ws RJ6 TJ6 1
theorem nmJ6 : ∀ a, a < 1 → ∀ b, b < 1 → a ≠ b → (TJ6 a).2.1 ≠ (TJ6 b).2.1 := by decide +kernel
theorem tyJ6_ok : ∀ k, k < 1 → parseFieldDescriptor (TJ6 k).2.2.1 = some (tyJ6 k) := by decide +kernel
abbrev cJ6_valueOf_2dffe : ByteArray := prog_22_method_22_code
def yJ6_valueOf_2dffe : MethodName := ⟨RJ6, "valueOf", "(I)Ljava/lang/Integer;"⟩
abbrev cJ6_init_d00df : ByteArray := prog_22_method_23_code
def yJ6_init_d00df : MethodName := ⟨RJ6, "<init>", "(I)V"⟩
abbrev cJ6_intValue_8abf5 : ByteArray := prog_22_method_27_code
def yJ6_intValue_8abf5 : MethodName := ⟨RJ6, "intValue", "()I"⟩
abbrev cJ6_numberOfTrailingZeros_0f7a4 : ByteArray := prog_22_method_48_code
def yJ6_numberOfTrailingZeros_0f7a4 : MethodName := ⟨RJ6, "numberOfTrailingZeros", "(I)I"⟩
abbrev cJ6_bitCount_0f7a4 : ByteArray := prog_22_method_49_code
def yJ6_bitCount_0f7a4 : MethodName := ⟨RJ6, "bitCount", "(I)I"⟩
def RJxab1ab : String := "java/lang/Iterable"
def TJxab1ab : u_T := fun k => match k with
  | _ => ("", "", "", false)
def tyJxab1ab : Nat → FieldType := fun k => match k with
  | _ => .int
abbrev wsJxab1ab0 : List Cond := u_ws RJxab1ab TJxab1ab 0
theorem nmJxab1ab : ∀ a, a < 0 → ∀ b, b < 0 → a ≠ b → (TJxab1ab a).2.1 ≠ (TJxab1ab b).2.1 := by decide +kernel
theorem tyJxab1ab_ok : ∀ k, k < 0 → parseFieldDescriptor (TJxab1ab k).2.2.1 = some (tyJxab1ab k) := by decide +kernel
def RJ9 : String := "java/lang/Math"
def TJ9 : u_T := fun k => match k with
  | _ => ("", "", "", false)
def tyJ9 : Nat → FieldType := fun k => match k with
  | _ => .int
abbrev wsJ90 : List Cond := u_ws RJ9 TJ9 0
theorem nmJ9 : ∀ a, a < 0 → ∀ b, b < 0 → a ≠ b → (TJ9 a).2.1 ≠ (TJ9 b).2.1 := by decide +kernel
theorem tyJ9_ok : ∀ k, k < 0 → parseFieldDescriptor (TJ9 k).2.2.1 = some (tyJ9 k) := by decide +kernel
abbrev cJ9_max_7cf53 : ByteArray := prog_25_method_65_code
def yJ9_max_7cf53 : MethodName := ⟨RJ9, "max", "(II)I"⟩
abbrev cJ9_min_7cf53 : ByteArray := prog_25_method_69_code
def yJ9_min_7cf53 : MethodName := ⟨RJ9, "min", "(II)I"⟩
def RJxd2413 : String := "java/lang/Number"
def TJxd2413 : u_T := fun k => match k with
  | _ => ("", "", "", false)
def tyJxd2413 : Nat → FieldType := fun k => match k with
  | _ => .int
abbrev wsJxd24130 : List Cond := u_ws RJxd2413 TJxd2413 0
theorem nmJxd2413 : ∀ a, a < 0 → ∀ b, b < 0 → a ≠ b → (TJxd2413 a).2.1 ≠ (TJxd2413 b).2.1 := by decide +kernel
theorem tyJxd2413_ok : ∀ k, k < 0 → parseFieldDescriptor (TJxd2413 k).2.2.1 = some (tyJxd2413 k) := by decide +kernel
abbrev cJxd2413_init_da8c8 : ByteArray := prog_26_method_1_code
def yJxd2413_init_da8c8 : MethodName := ⟨RJxd2413, "<init>", "()V"⟩
def RJ10 : String := "java/lang/System"
def TJ10 : u_T := fun k => match k with
  | _ => ("", "", "", false)
def tyJ10 : Nat → FieldType := fun k => match k with
  | _ => .int
abbrev wsJ100 : List Cond := u_ws RJ10 TJ10 0
theorem nmJ10 : ∀ a, a < 0 → ∀ b, b < 0 → a ≠ b → (TJ10 a).2.1 ≠ (TJ10 b).2.1 := by decide +kernel
theorem tyJ10_ok : ∀ k, k < 0 → parseFieldDescriptor (TJ10 k).2.2.1 = some (tyJ10 k) := by decide +kernel
def RJxfd54e : String := "java/lang/constant/Constable"
def TJxfd54e : u_T := fun k => match k with
  | _ => ("", "", "", false)
def tyJxfd54e : Nat → FieldType := fun k => match k with
  | _ => .int
abbrev wsJxfd54e0 : List Cond := u_ws RJxfd54e TJxfd54e 0
theorem nmJxfd54e : ∀ a, a < 0 → ∀ b, b < 0 → a ≠ b → (TJxfd54e a).2.1 ≠ (TJxfd54e b).2.1 := by decide +kernel
theorem tyJxfd54e_ok : ∀ k, k < 0 → parseFieldDescriptor (TJxfd54e k).2.2.1 = some (tyJxfd54e k) := by decide +kernel
def RJx3cf43 : String := "java/lang/constant/ConstantDesc"
def TJx3cf43 : u_T := fun k => match k with
  | _ => ("", "", "", false)
def tyJx3cf43 : Nat → FieldType := fun k => match k with
  | _ => .int
abbrev wsJx3cf430 : List Cond := u_ws RJx3cf43 TJx3cf43 0
theorem nmJx3cf43 : ∀ a, a < 0 → ∀ b, b < 0 → a ≠ b → (TJx3cf43 a).2.1 ≠ (TJx3cf43 b).2.1 := by decide +kernel
theorem tyJx3cf43_ok : ∀ k, k < 0 → parseFieldDescriptor (TJx3cf43 k).2.2.1 = some (tyJx3cf43 k) := by decide +kernel
def RJxa1e45 : String := "java/util/AbstractCollection"
def TJxa1e45 : u_T := fun k => match k with
  | _ => ("", "", "", false)
def tyJxa1e45 : Nat → FieldType := fun k => match k with
  | _ => .int
abbrev wsJxa1e450 : List Cond := u_ws RJxa1e45 TJxa1e45 0
theorem nmJxa1e45 : ∀ a, a < 0 → ∀ b, b < 0 → a ≠ b → (TJxa1e45 a).2.1 ≠ (TJxa1e45 b).2.1 := by decide +kernel
theorem tyJxa1e45_ok : ∀ k, k < 0 → parseFieldDescriptor (TJxa1e45 k).2.2.1 = some (tyJxa1e45 k) := by decide +kernel
abbrev cJxa1e45_init_da8c8 : ByteArray := prog_32_method_1_code
def yJxa1e45_init_da8c8 : MethodName := ⟨RJxa1e45, "<init>", "()V"⟩
def RJxc12de : String := "java/util/AbstractList"
def TJxc12de : u_T := fun k => match k with
  | _ => ("", "", "", false)
def tyJxc12de : Nat → FieldType := fun k => match k with
  | _ => .int
abbrev wsJxc12de0 : List Cond := u_ws RJxc12de TJxc12de 0
theorem nmJxc12de : ∀ a, a < 0 → ∀ b, b < 0 → a ≠ b → (TJxc12de a).2.1 ≠ (TJxc12de b).2.1 := by decide +kernel
theorem tyJxc12de_ok : ∀ k, k < 0 → parseFieldDescriptor (TJxc12de k).2.2.1 = some (tyJxc12de k) := by decide +kernel
abbrev cJxc12de_init_da8c8 : ByteArray := prog_33_method_1_code
def yJxc12de_init_da8c8 : MethodName := ⟨RJxc12de, "<init>", "()V"⟩
def RJx4a65c : String := "java/util/ArrayList"
def TJx4a65c : u_T := fun k => match k with
  | 0 => ("java/util/AbstractList", "modCount", "I", false)
  | 1 => ("java/util/ArrayList", "elementData", "[Ljava/lang/Object;", false)
  | _ => ("java/util/ArrayList", "size", "I", false)
def tyJx4a65c : Nat → FieldType := fun k => match k with
  | 0 => .int
  | 1 => .array (.object "java/lang/Object")
  | _ => .int
abbrev wsJx4a65c0 : List Cond := u_ws RJx4a65c TJx4a65c 3
theorem nmJx4a65c : ∀ a, a < 3 → ∀ b, b < 3 → a ≠ b → (TJx4a65c a).2.1 ≠ (TJx4a65c b).2.1 := by decide +kernel
theorem tyJx4a65c_ok : ∀ k, k < 3 → parseFieldDescriptor (TJx4a65c k).2.2.1 = some (tyJx4a65c k) := by decide +kernel
abbrev cJx4a65c_init_da8c8 : ByteArray := prog_34_method_2_code
def yJx4a65c_init_da8c8 : MethodName := ⟨RJx4a65c, "<init>", "()V"⟩
abbrev cJx4a65c_init_4bcb3 : ByteArray := prog_34_method_3_code
def yJx4a65c_init_4bcb3 : MethodName := ⟨RJx4a65c, "<init>", "(Ljava/util/Collection;)V"⟩
abbrev cJx4a65c_grow_92f84 : ByteArray := prog_34_method_6_code
def yJx4a65c_grow_92f84 : MethodName := ⟨RJx4a65c, "grow", "(I)[Ljava/lang/Object;"⟩
abbrev cJx4a65c_grow_d5877 : ByteArray := prog_34_method_7_code
def yJx4a65c_grow_d5877 : MethodName := ⟨RJx4a65c, "grow", "()[Ljava/lang/Object;"⟩
abbrev cJx4a65c_size_8abf5 : ByteArray := prog_34_method_8_code
def yJx4a65c_size_8abf5 : MethodName := ⟨RJx4a65c, "size", "()I"⟩
abbrev cJx4a65c_isEmpty_aae02 : ByteArray := prog_34_method_9_code
def yJx4a65c_isEmpty_aae02 : MethodName := ⟨RJx4a65c, "isEmpty", "()Z"⟩
abbrev cJx4a65c_toArray_d5877 : ByteArray := prog_34_method_16_code
def yJx4a65c_toArray_d5877 : MethodName := ⟨RJx4a65c, "toArray", "()[Ljava/lang/Object;"⟩
abbrev cJx4a65c_elementData_915e3 : ByteArray := prog_34_method_18_code
def yJx4a65c_elementData_915e3 : MethodName := ⟨RJx4a65c, "elementData", "(I)Ljava/lang/Object;"⟩
abbrev cJx4a65c_get_915e3 : ByteArray := prog_34_method_20_code
def yJx4a65c_get_915e3 : MethodName := ⟨RJx4a65c, "get", "(I)Ljava/lang/Object;"⟩
abbrev cJx4a65c_add_72be8 : ByteArray := prog_34_method_24_code
def yJx4a65c_add_72be8 : MethodName := ⟨RJx4a65c, "add", "(Ljava/lang/Object;[Ljava/lang/Object;I)V"⟩
abbrev cJx4a65c_add_9ea2d : ByteArray := prog_34_method_25_code
def yJx4a65c_add_9ea2d : MethodName := ⟨RJx4a65c, "add", "(Ljava/lang/Object;)Z"⟩
abbrev cJx4a65c_remove_915e3 : ByteArray := prog_34_method_29_code
def yJx4a65c_remove_915e3 : MethodName := ⟨RJx4a65c, "remove", "(I)Ljava/lang/Object;"⟩
abbrev cJx4a65c_fastRemove_b59b0 : ByteArray := prog_34_method_39_code
def yJx4a65c_fastRemove_b59b0 : MethodName := ⟨RJx4a65c, "fastRemove", "([Ljava/lang/Object;I)V"⟩
abbrev cJx4a65c_clear_da8c8 : ByteArray := prog_34_method_40_code
def yJx4a65c_clear_da8c8 : MethodName := ⟨RJx4a65c, "clear", "()V"⟩
def RJ7 : String := "java/util/Arrays"
def TJ7 : u_T := fun k => match k with
  | _ => ("", "", "", false)
def tyJ7 : Nat → FieldType := fun k => match k with
  | _ => .int
abbrev wsJ70 : List Cond := u_ws RJ7 TJ7 0
theorem nmJ7 : ∀ a, a < 0 → ∀ b, b < 0 → a ≠ b → (TJ7 a).2.1 ≠ (TJ7 b).2.1 := by decide +kernel
theorem tyJ7_ok : ∀ k, k < 0 → parseFieldDescriptor (TJ7 k).2.2.1 = some (tyJ7 k) := by decide +kernel
abbrev cJ7_copyOf_1904c : ByteArray := prog_35_method_119_code
def yJ7_copyOf_1904c : MethodName := ⟨RJ7, "copyOf", "([Ljava/lang/Object;I)[Ljava/lang/Object;"⟩
abbrev cJ7_copyOf_6403c : ByteArray := prog_35_method_120_code
def yJ7_copyOf_6403c : MethodName := ⟨RJ7, "copyOf", "([Ljava/lang/Object;ILjava/lang/Class;)[Ljava/lang/Object;"⟩
def RJx5ef63 : String := "java/util/Collection"
def TJx5ef63 : u_T := fun k => match k with
  | _ => ("", "", "", false)
def tyJx5ef63 : Nat → FieldType := fun k => match k with
  | _ => .int
abbrev wsJx5ef630 : List Cond := u_ws RJx5ef63 TJx5ef63 0
theorem nmJx5ef63 : ∀ a, a < 0 → ∀ b, b < 0 → a ≠ b → (TJx5ef63 a).2.1 ≠ (TJx5ef63 b).2.1 := by decide +kernel
theorem tyJx5ef63_ok : ∀ k, k < 0 → parseFieldDescriptor (TJx5ef63 k).2.2.1 = some (tyJx5ef63 k) := by decide +kernel
def RJxbd725 : String := "java/util/List"
def TJxbd725 : u_T := fun k => match k with
  | _ => ("", "", "", false)
def tyJxbd725 : Nat → FieldType := fun k => match k with
  | _ => .int
abbrev wsJxbd7250 : List Cond := u_ws RJxbd725 TJxbd725 0
theorem nmJxbd725 : ∀ a, a < 0 → ∀ b, b < 0 → a ≠ b → (TJxbd725 a).2.1 ≠ (TJxbd725 b).2.1 := by decide +kernel
theorem tyJxbd725_ok : ∀ k, k < 0 → parseFieldDescriptor (TJxbd725 k).2.2.1 = some (tyJxbd725 k) := by decide +kernel
def RJ15 : String := "java/util/Objects"
def TJ15 : u_T := fun k => match k with
  | _ => ("", "", "", false)
def tyJ15 : Nat → FieldType := fun k => match k with
  | _ => .int
abbrev wsJ150 : List Cond := u_ws RJ15 TJ15 0
theorem nmJ15 : ∀ a, a < 0 → ∀ b, b < 0 → a ≠ b → (TJ15 a).2.1 ≠ (TJ15 b).2.1 := by decide +kernel
theorem tyJ15_ok : ∀ k, k < 0 → parseFieldDescriptor (TJ15 k).2.2.1 = some (tyJ15 k) := by decide +kernel
abbrev cJ15_checkIndex_7cf53 : ByteArray := prog_38_method_17_code
def yJ15_checkIndex_7cf53 : MethodName := ⟨RJ15, "checkIndex", "(II)I"⟩
def RJxf0a74 : String := "java/util/RandomAccess"
def TJxf0a74 : u_T := fun k => match k with
  | _ => ("", "", "", false)
def tyJxf0a74 : Nat → FieldType := fun k => match k with
  | _ => .int
abbrev wsJxf0a740 : List Cond := u_ws RJxf0a74 TJxf0a74 0
theorem nmJxf0a74 : ∀ a, a < 0 → ∀ b, b < 0 → a ≠ b → (TJxf0a74 a).2.1 ≠ (TJxf0a74 b).2.1 := by decide +kernel
theorem tyJxf0a74_ok : ∀ k, k < 0 → parseFieldDescriptor (TJxf0a74 k).2.2.1 = some (tyJxf0a74 k) := by decide +kernel
def RJxa66e6 : String := "java/util/SequencedCollection"
def TJxa66e6 : u_T := fun k => match k with
  | _ => ("", "", "", false)
def tyJxa66e6 : Nat → FieldType := fun k => match k with
  | _ => .int
abbrev wsJxa66e60 : List Cond := u_ws RJxa66e6 TJxa66e6 0
theorem nmJxa66e6 : ∀ a, a < 0 → ∀ b, b < 0 → a ≠ b → (TJxa66e6 a).2.1 ≠ (TJxa66e6 b).2.1 := by decide +kernel
theorem tyJxa66e6_ok : ∀ k, k < 0 → parseFieldDescriptor (TJxa66e6 k).2.2.1 = some (tyJxa66e6 k) := by decide +kernel
def RJ8 : String := "jdk/internal/util/ArraysSupport"
def TJ8 : u_T := fun k => match k with
  | _ => ("", "", "", false)
def tyJ8 : Nat → FieldType := fun k => match k with
  | _ => .int
abbrev wsJ80 : List Cond := u_ws RJ8 TJ8 0
theorem nmJ8 : ∀ a, a < 0 → ∀ b, b < 0 → a ≠ b → (TJ8 a).2.1 ≠ (TJ8 b).2.1 := by decide +kernel
theorem tyJ8_ok : ∀ k, k < 0 → parseFieldDescriptor (TJ8 k).2.2.1 = some (tyJ8 k) := by decide +kernel
abbrev cJ8_newLength_cabcc : ByteArray := prog_41_method_27_code
def yJ8_newLength_cabcc : MethodName := ⟨RJ8, "newLength", "(III)I"⟩
abbrev cJ8_hugeLength_7cf53 : ByteArray := prog_41_method_28_code
def yJ8_hugeLength_7cf53 : MethodName := ⟨RJ8, "hugeLength", "(II)I"⟩
def RJ3 : String := "jdk/internal/util/Preconditions"
def TJ3 : u_T := fun k => match k with
  | _ => ("", "", "", false)
def tyJ3 : Nat → FieldType := fun k => match k with
  | _ => .int
abbrev wsJ30 : List Cond := u_ws RJ3 TJ3 0
theorem nmJ3 : ∀ a, a < 0 → ∀ b, b < 0 → a ≠ b → (TJ3 a).2.1 ≠ (TJ3 b).2.1 := by decide +kernel
theorem tyJ3_ok : ∀ k, k < 0 → parseFieldDescriptor (TJ3 k).2.2.1 = some (tyJ3 k) := by decide +kernel
abbrev cJ3_checkIndex_8e157 : ByteArray := prog_42_method_11_code
def yJ3_checkIndex_8e157 : MethodName := ⟨RJ3, "checkIndex", "(IILjava/util/function/BiFunction;)I"⟩
def RL : String := "PuppetTheatreLaw"
abbrev cL_addState : ByteArray := method_3_code
def yL_addState : MethodName := ⟨RL, "addState", "(LPuppetTheatre;II[J)I"⟩
abbrev cL_setFirst : ByteArray := method_4_code
def yL_setFirst : MethodName := ⟨RL, "setFirst", "(LPuppetTheatre;II[J)I"⟩
abbrev cL_setDoing : ByteArray := method_5_code
def yL_setDoing : MethodName := ⟨RL, "setDoing", "(LPuppetTheatre;IZIII[J)I"⟩
abbrev cL_addTransition : ByteArray := method_6_code
def yL_addTransition : MethodName := ⟨RL, "addTransition", "(LPuppetTheatre;IIII[J)I"⟩
abbrev cL_setGuard : ByteArray := method_7_code
def yL_setGuard : MethodName := ⟨RL, "setGuard", "(LPuppetTheatre;IIII[J)I"⟩
abbrev cL_setAction : ByteArray := method_8_code
def yL_setAction : MethodName := ⟨RL, "setAction", "(LPuppetTheatre;IIII[J)I"⟩
abbrev cL_start : ByteArray := method_9_code
def yL_start : MethodName := ⟨RL, "start", "(LPuppetTheatre;[J)I"⟩
abbrev cL_stop : ByteArray := method_10_code
def yL_stop : MethodName := ⟨RL, "stop", "(LPuppetTheatre;[J)I"⟩
abbrev cL_send : ByteArray := method_11_code
def yL_send : MethodName := ⟨RL, "send", "(LPuppetTheatre;I[J)I"⟩
abbrev cL_tick : ByteArray := method_12_code
def yL_tick : MethodName := ⟨RL, "tick", "(LPuppetTheatre;I[J)I"⟩
abbrev cL_ofState : ByteArray := method_13_code
def yL_ofState : MethodName := ⟨RL, "ofState", "(LPuppetTheatre;II[J)I"⟩
abbrev cL_isEnded : ByteArray := method_14_code
def yL_isEnded : MethodName := ⟨RL, "isEnded", "(LPuppetTheatre;I[J)I"⟩
abbrev cL_ageOf : ByteArray := method_15_code
def yL_ageOf : MethodName := ⟨RL, "ageOf", "(LPuppetTheatre;I[J)I"⟩
abbrev cL_record : ByteArray := method_16_code
def yL_record : MethodName := ⟨RL, "record", "(LPuppetTheatre;I[J)I"⟩
abbrev cL_variable : ByteArray := method_17_code
def yL_variable : MethodName := ⟨RL, "variable", "(LPuppetTheatre;I[J)I"⟩
abbrev cL_fired : ByteArray := method_18_code
def yL_fired : MethodName := ⟨RL, "fired", "(LPuppetTheatre;I[J)I"⟩
abbrev cL_wouldFire : ByteArray := method_19_code
def yL_wouldFire : MethodName := ⟨RL, "wouldFire", "(LPuppetTheatre;I[J)I"⟩
abbrev cL_wouldBe : ByteArray := method_20_code
def yL_wouldBe : MethodName := ⟨RL, "wouldBe", "(LPuppetTheatre;I[J)I"⟩
abbrev cL_open : ByteArray := method_21_code
def yL_open : MethodName := ⟨RL, "open", "(LPuppetTheatre;[J)I"⟩
abbrev cL_rowTo : ByteArray := method_22_code
def yL_rowTo : MethodName := ⟨RL, "rowTo", "(LPuppetTheatre;II[J)I"⟩
abbrev cL_rowFor : ByteArray := method_23_code
def yL_rowFor : MethodName := ⟨RL, "rowFor", "(LPuppetTheatre;II[J)I"⟩
abbrev cL_law : ByteArray := code
def yL_law : MethodName := ⟨RL, "law", "([I)Z"⟩
abbrev vwCl : List vw_C := [(RJ6, TJ6, 1), (RJx4a65c, TJx4a65c, 3), (RX0, TX0, 3), (RX1, TX1, 7), (RX2, TX2, 9), (RX3, TX3, 11), (RX4, TX4, 4), (RX5, TX5, 9), (RX6, TX6, 9), (RX7, TX7, 5), (RX8, TX8, 2), (RX9, TX9, 11), (RX10, TX10, 5), (RX11, TX11, 6), (RX12, TX12, 5)]
end
section
/-! THE ENGINE'S OBJECTS, numbered in the order in which the constructor makes them: 0 the engine, 1 Chart, 2 states, 3 transitions, 4 causedBy, 5 + 3 s State s and its two Actions, 65 + 2 t Transition t and its Action, 125 and 133 the two Plays (+1 Situation, +2 ages, +3 records, +4 variables, +5 fired, +6 queue, +7 taken), 141 Look, 142 row, 143 found, 144 origin, 145 byCall, 146 calls, 147 + 4 i Situation i (+1 ages, +2 records, +3 variables). All references are constant; what changes is ints: M k j is the int in slot (or place) j of object k. -/
abbrev pt_cl : List vw_C := [(RX0, TX0, 3), (RX1, TX1, 7), (RX2, TX2, 9), (RX3, TX3, 11), (RX4, TX4, 4), (RX5, TX5, 9), (RX6, TX6, 9), (RX7, TX7, 5)]
abbrev pt_M : Type := Nat → Nat → Int32
def pt_kd (k : Nat) : Nat := if k < 5 then (if k = 0 then 7 else if k = 1 then 1 else if k = 2 then 9 else if k = 3 then 10 else 8) else if k < 65 then (if (k - 5) % 3 = 0 then 5 else 0) else if k < 125 then (if (k - 65) % 2 = 0 then 6 else 0) else if k < 141 then (if (k - 125) % 8 = 0 then 3 else if (k - 125) % 8 = 1 then 4 else 8) else if k < 147 then (if k = 141 then 2 else if k = 143 then 11 else 8) else if k < 387 then (if (k - 147) % 4 = 0 then 4 else 8) else 12
def pt_len (k : Nat) : Nat := if k < 125 then 12 else if k < 141 then (if (k - 125) % 8 = 4 then 4 else if (k - 125) % 8 = 5 then 30 else if (k - 125) % 8 = 6 then 8 else if (k - 125) % 8 = 7 then 30 else 20) else if k < 147 then (if k = 142 then 8 else 60) else (if (k - 147) % 4 = 3 then 4 else 20)
def pt_cel (cA : Nat → ClassId) (ad : Nat → Nat) (k : Nat) (m : Nat → Int32) : va_E := match pt_kd k with
  | 0 => .inr (0, [.int (m 0), .int (m 1), .int (m 2)])
  | 1 => .inr (1, [.ref (ad 2), .ref (ad 3), .ref (ad 4), .int (m 3), .int (m 4), .int (m 5), .int (m 6)])
  | 2 => .inr (2, [.ref (ad 142), .int (m 1), .int (m 2), .ref (ad 133), .ref (ad 143), .ref (ad 144), .ref (ad 145), .ref (ad 146), .int (m 8)])
  | 3 => .inr (3, [.ref (ad 1), .ref (ad (k + 1)), .ref (ad (k + 5)), .int (m 3), .int (m 4), .int (m 5), .int (m 6), .ref (ad (k + 6)), .int (m 8), .ref (ad (k + 7)), .int (m 10)])
  | 4 => .inr (4, [.ref (ad (k + 1)), .ref (ad (k + 2)), .ref (ad (k + 3)), .int (m 3)])
  | 5 => .inr (5, [.ref (ad (k + 1)), .ref (ad (k + 2)), .int (m 2), .int (m 3), .int (m 4), .int (m 5), .int (m 6), .int (m 7), .int (m 8)])
  | 6 => .inr (6, [.ref (ad (k + 1)), .int (m 1), .int (m 2), .int (m 3), .int (m 4), .int (m 5), .int (m 6), .int (m 7), .int (m 8)])
  | 7 => .inr (7, [.ref (ad 1), .ref (ad 125), .ref (ad 133), .ref (ad 141), .int (m 4)])
  | 8 => .inl (cA 0, pt_len k, .inl m)
  | 9 => .inl (cA 1, 20, .inr (.inr (.inr (.inr (fun i => some (ad (5 + 3 * i)))))))
  | 10 => .inl (cA 2, 30, .inr (.inr (.inr (.inr (fun i => some (ad (65 + 2 * i)))))))
  | _ => .inl (cA 3, 60, .inr (.inr (.inr (.inr (fun i => some (ad (147 + 4 * i)))))))
def pt_W (cA : Nat → ClassId) (ad : Nat → Nat) (M : pt_M) : va_W := (List.range 387).map fun k => (ad k, pt_cel cA ad k (M k))
/-- one int is written -/
def pt_st (M : pt_M) (k j : Nat) (x : Int32) : pt_M := fun a => if a = k then (fun b => if b = j then x else M k b) else M a
/-- the first n ints of object i go to object k -/
def pt_cp (M : pt_M) (k i n : Nat) : pt_M := fun a => if a = k then va_cpy (M i) (M k) 0 0 n else M a
theorem pt_st_k {M : pt_M} {k j : Nat} {x : Int32} : pt_st M k j x k = fun b => if b = j then x else M k b := if_pos rfl
theorem pt_st_o {M : pt_M} {k j a : Nat} {x : Int32} (h : a ≠ k) : pt_st M k j x a = M a := if_neg h
theorem pt_cp_k {M : pt_M} {k i n : Nat} : pt_cp M k i n k = va_cpy (M i) (M k) 0 0 n := if_pos rfl
theorem pt_cp_o {M : pt_M} {k i n a : Nat} (h : a ≠ k) : pt_cp M k i n a = M a := if_neg h
def pt_T (cA : Nat → ClassId) : List (ClassId × FieldType) := [(cA 0, .int), (cA 1, .object RX5), (cA 2, .object RX6), (cA 3, .object RX4)]
theorem pt_lt {k : Nat} (h : pt_kd k ≠ 12) : k < 387 := by
  unfold pt_kd at h
  rcases Nat.lt_or_ge k 387 with q | q
  · exact q
  · exfalso
    apply h
    rw [if_neg (by omega), if_neg (by omega), if_neg (by omega), if_neg (by omega), if_neg (by omega), if_neg (by omega)]
theorem pt_l0 {k : Nat} (h : pt_kd k = 0) : k < 387 := pt_lt (by rw [h]; decide)
theorem pt_l1 {k : Nat} (h : pt_kd k = 1) : k < 387 := pt_lt (by rw [h]; decide)
theorem pt_l2 {k : Nat} (h : pt_kd k = 2) : k < 387 := pt_lt (by rw [h]; decide)
theorem pt_l3 {k : Nat} (h : pt_kd k = 3) : k < 387 := pt_lt (by rw [h]; decide)
theorem pt_l4 {k : Nat} (h : pt_kd k = 4) : k < 387 := pt_lt (by rw [h]; decide)
theorem pt_l5 {k : Nat} (h : pt_kd k = 5) : k < 387 := pt_lt (by rw [h]; decide)
theorem pt_l6 {k : Nat} (h : pt_kd k = 6) : k < 387 := pt_lt (by rw [h]; decide)
theorem pt_l7 {k : Nat} (h : pt_kd k = 7) : k < 387 := pt_lt (by rw [h]; decide)
theorem pt_l8 {k : Nat} (h : pt_kd k = 8) : k < 387 := pt_lt (by rw [h]; decide)
section PTC
variable {cA : Nat → ClassId} {ad : Nat → Nat} {k : Nat} (m : Nat → Int32)
theorem pt_c0 (h : pt_kd k = 0) : pt_cel cA ad k m = .inr (0, [.int (m 0), .int (m 1), .int (m 2)]) := by unfold pt_cel; rw [h]; rfl
theorem pt_c1 (h : pt_kd k = 1) : pt_cel cA ad k m = .inr (1, [.ref (ad 2), .ref (ad 3), .ref (ad 4), .int (m 3), .int (m 4), .int (m 5), .int (m 6)]) := by unfold pt_cel; rw [h]; rfl
theorem pt_c2 (h : pt_kd k = 2) : pt_cel cA ad k m = .inr (2, [.ref (ad 142), .int (m 1), .int (m 2), .ref (ad 133), .ref (ad 143), .ref (ad 144), .ref (ad 145), .ref (ad 146), .int (m 8)]) := by unfold pt_cel; rw [h]; rfl
theorem pt_c3 (h : pt_kd k = 3) : pt_cel cA ad k m = .inr (3, [.ref (ad 1), .ref (ad (k + 1)), .ref (ad (k + 5)), .int (m 3), .int (m 4), .int (m 5), .int (m 6), .ref (ad (k + 6)), .int (m 8), .ref (ad (k + 7)), .int (m 10)]) := by unfold pt_cel; rw [h]; rfl
theorem pt_c4 (h : pt_kd k = 4) : pt_cel cA ad k m = .inr (4, [.ref (ad (k + 1)), .ref (ad (k + 2)), .ref (ad (k + 3)), .int (m 3)]) := by unfold pt_cel; rw [h]; rfl
theorem pt_c5 (h : pt_kd k = 5) : pt_cel cA ad k m = .inr (5, [.ref (ad (k + 1)), .ref (ad (k + 2)), .int (m 2), .int (m 3), .int (m 4), .int (m 5), .int (m 6), .int (m 7), .int (m 8)]) := by unfold pt_cel; rw [h]; rfl
theorem pt_c6 (h : pt_kd k = 6) : pt_cel cA ad k m = .inr (6, [.ref (ad (k + 1)), .int (m 1), .int (m 2), .int (m 3), .int (m 4), .int (m 5), .int (m 6), .int (m 7), .int (m 8)]) := by unfold pt_cel; rw [h]; rfl
theorem pt_c7 (h : pt_kd k = 7) : pt_cel cA ad k m = .inr (7, [.ref (ad 1), .ref (ad 125), .ref (ad 133), .ref (ad 141), .int (m 4)]) := by unfold pt_cel; rw [h]; rfl
theorem pt_c8 {n : Nat} (h : pt_kd k = 8 ∧ pt_len k = n) : pt_cel cA ad k m = .inl (cA 0, n, .inl m) := by unfold pt_cel; rw [h.1, h.2]; rfl
end PTC
theorem pt_c9 {cA : Nat → ClassId} {ad : Nat → Nat} {m : Nat → Int32} : pt_cel cA ad 2 m = .inl (cA 1, 20, .inr (.inr (.inr (.inr (fun i => some (ad (5 + 3 * i))))))) := rfl
theorem pt_c10 {cA : Nat → ClassId} {ad : Nat → Nat} {m : Nat → Int32} : pt_cel cA ad 3 m = .inl (cA 2, 30, .inr (.inr (.inr (.inr (fun i => some (ad (65 + 2 * i))))))) := rfl
theorem pt_c11 {cA : Nat → ClassId} {ad : Nat → Nat} {m : Nat → Int32} : pt_cel cA ad 143 m = .inl (cA 3, 60, .inr (.inr (.inr (.inr (fun i => some (ad (147 + 4 * i))))))) := rfl
-- what an object's own objects are
set_option maxRecDepth 20000 in
theorem pt_q3' : ∀ k, k < 387 → pt_kd k = 3 → pt_kd (k + 1) = 4 ∧ (pt_kd (k + 5) = 8 ∧ pt_len (k + 5) = 30) ∧ (pt_kd (k + 6) = 8 ∧ pt_len (k + 6) = 8) ∧ (pt_kd (k + 7) = 8 ∧ pt_len (k + 7) = 30) := by decide +kernel
set_option maxRecDepth 20000 in
theorem pt_q4' : ∀ k, k < 387 → pt_kd k = 4 → (pt_kd (k + 1) = 8 ∧ pt_len (k + 1) = 20) ∧ (pt_kd (k + 2) = 8 ∧ pt_len (k + 2) = 20) ∧ (pt_kd (k + 3) = 8 ∧ pt_len (k + 3) = 4) := by decide +kernel
set_option maxRecDepth 20000 in
theorem pt_q5' : ∀ k, k < 387 → pt_kd k = 5 → pt_kd (k + 1) = 0 ∧ pt_kd (k + 2) = 0 := by decide +kernel
set_option maxRecDepth 20000 in
theorem pt_q6' : ∀ k, k < 387 → pt_kd k = 6 → pt_kd (k + 1) = 0 := by decide +kernel
theorem pt_3s {k : Nat} (h : pt_kd k = 3) : pt_kd (k + 1) = 4 := (pt_q3' k (pt_l3 h) h).1
theorem pt_3f {k : Nat} (h : pt_kd k = 3) : pt_kd (k + 5) = 8 ∧ pt_len (k + 5) = 30 := (pt_q3' k (pt_l3 h) h).2.1
theorem pt_3q {k : Nat} (h : pt_kd k = 3) : pt_kd (k + 6) = 8 ∧ pt_len (k + 6) = 8 := (pt_q3' k (pt_l3 h) h).2.2.1
theorem pt_3t {k : Nat} (h : pt_kd k = 3) : pt_kd (k + 7) = 8 ∧ pt_len (k + 7) = 30 := (pt_q3' k (pt_l3 h) h).2.2.2
theorem pt_4a {k : Nat} (h : pt_kd k = 4) : pt_kd (k + 1) = 8 ∧ pt_len (k + 1) = 20 := (pt_q4' k (pt_l4 h) h).1
theorem pt_4r {k : Nat} (h : pt_kd k = 4) : pt_kd (k + 2) = 8 ∧ pt_len (k + 2) = 20 := (pt_q4' k (pt_l4 h) h).2.1
theorem pt_4v {k : Nat} (h : pt_kd k = 4) : pt_kd (k + 3) = 8 ∧ pt_len (k + 3) = 4 := (pt_q4' k (pt_l4 h) h).2.2
theorem pt_5e {k : Nat} (h : pt_kd k = 5) : pt_kd (k + 1) = 0 := (pt_q5' k (pt_l5 h) h).1
theorem pt_5l {k : Nat} (h : pt_kd k = 5) : pt_kd (k + 2) = 0 := (pt_q5' k (pt_l5 h) h).2
theorem pt_6a {k : Nat} (h : pt_kd k = 6) : pt_kd (k + 1) = 0 := pt_q6' k (pt_l6 h) h
set_option maxRecDepth 20000 in
theorem pt_ks' : ∀ i, i < 20 → pt_kd (5 + 3 * i) = 5 := by decide +kernel
set_option maxRecDepth 20000 in
theorem pt_kt' : ∀ i, i < 30 → pt_kd (65 + 2 * i) = 6 := by decide +kernel
set_option maxRecDepth 20000 in
theorem pt_kq' : ∀ i, i < 60 → pt_kd (147 + 4 * i) = 4 := by decide +kernel
theorem pt_inlt {i : Int32} {n : Nat} (h : vp_in i n) : i.toNatClampNeg < n := Nat.not_le.mp fun q => h (Or.inr q)
/-- the object in a place of states, transitions, found -/
def pt_s (i : Int32) : Nat := 5 + 3 * i.toNatClampNeg
def pt_t (i : Int32) : Nat := 65 + 2 * i.toNatClampNeg
def pt_q (i : Int32) : Nat := 147 + 4 * i.toNatClampNeg
theorem pt_ks {i : Int32} (h : vp_in i 20) : pt_kd (pt_s i) = 5 := pt_ks' _ (pt_inlt h)
theorem pt_kt {i : Int32} (h : vp_in i 30) : pt_kd (pt_t i) = 6 := pt_kt' _ (pt_inlt h)
theorem pt_kq {i : Int32} (h : vp_in i 60) : pt_kd (pt_q i) = 4 := pt_kq' _ (pt_inlt h)
theorem pt_W_get {cA : Nat → ClassId} {ad : Nat → Nat} {M : pt_M} {k : Nat} (hk : k < 387) : (pt_W cA ad M)[k]? = some (ad k, pt_cel cA ad k (M k)) := by simp [pt_W, hk]
theorem pt_W_upd {cA : Nat → ClassId} {ad : Nat → Nat} {M M1 : pt_M} {k : Nat} {e : va_E} (hk : k < 387) (he : pt_cel cA ad k (M1 k) = e) (ho : ∀ a, a ≠ k → M1 a = M a) : (pt_W cA ad M).set k (ad k, e) = pt_W cA ad M1 := by
  apply List.ext_getElem?
  intro i
  rw [List.getElem?_set]
  rcases Nat.lt_or_ge i 387 with hi | hi
  · by_cases h : k = i
    · subst h
      rw [if_pos rfl, if_pos (by simp [pt_W, hk]), pt_W_get hi, he]
    · rw [if_neg h, pt_W_get hi, pt_W_get hi, ho i (fun q => h q.symm)]
  · have h1 : (pt_W cA ad M)[i]? = none := List.getElem?_eq_none (by simp [pt_W, hi])
    have h2 : (pt_W cA ad M1)[i]? = none := List.getElem?_eq_none (by simp [pt_W, hi])
    rw [if_neg (by omega), h1, h2]
theorem pt_k0 : pt_kd 0 = 7 := by decide
theorem pt_k1 : pt_kd 1 = 1 := by decide
theorem pt_k141 : pt_kd 141 = 2 := by decide
theorem pt_k125 : pt_kd 125 = 3 := by decide
theorem pt_k133 : pt_kd 133 = 3 := by decide
theorem pt_a4 : pt_kd 4 = 8 ∧ pt_len 4 = 12 := by decide
theorem pt_a142 : pt_kd 142 = 8 ∧ pt_len 142 = 8 := by decide
theorem pt_a144 : pt_kd 144 = 8 ∧ pt_len 144 = 60 := by decide
theorem pt_a145 : pt_kd 145 = 8 ∧ pt_len 145 = 60 := by decide
theorem pt_a146 : pt_kd 146 = 8 ∧ pt_len 146 = 60 := by decide
-- switches
theorem pt_ine {x : Int32} (v : Int) (h : ¬ x = Int32.ofInt v) (h1 : -2147483648 ≤ v) (h2 : v < 2147483648) : x.toInt ≠ v := by
  intro e
  apply h
  apply Int32.toInt_inj.mp
  rw [e, Int32.toInt_ofInt_of_le h1 h2]
theorem pt_out13 {x : Int32} (h1 : ¬ x = 1) (h2 : ¬ x = 2) (h3 : ¬ x = 3) : x.toInt < 1 ∨ 3 < x.toInt := by
  have a := pt_ine 1 h1 (by decide) (by decide)
  have b := pt_ine 2 h2 (by decide) (by decide)
  have c := pt_ine 3 h3 (by decide) (by decide)
  omega
theorem pt_out03 {x : Int32} (h0 : ¬ x = 0) (h1 : ¬ x = 1) (h2 : ¬ x = 2) (h3 : ¬ x = 3) : x.toInt < 0 ∨ 3 < x.toInt := by
  have z := pt_ine 0 h0 (by decide) (by decide)
  have a := pt_ine 1 h1 (by decide) (by decide)
  have b := pt_ine 2 h2 (by decide) (by decide)
  have c := pt_ine 3 h3 (by decide) (by decide)
  omega
theorem pt_look1_2 {x : Int32} {a b d : Int} (h1 : ¬ x = 1) (h2 : ¬ x = 2) : Op.lookupswitch.offset [(1, a), (2, b)] d x.toInt = d := by
  have e1 := pt_ine 1 h1 (by decide) (by decide)
  have e2 := pt_ine 2 h2 (by decide) (by decide)
  simp [Op.lookupswitch.offset, Ne.symm e1, Ne.symm e2]
-- the table's words last, whoever calls (those that the class's own methods need)
def pt_okw (w : Cond) : Bool := goodWord w || (match w with | .methodLinkNest .. => true | .fieldLinkNest .. => true | .arrayOver (.object _) => true | _ => false)
def lw_all : List Cond := lw_tbl.filter pt_okw
theorem pt_all {w : Cond} (h : w ∈ lw_tbl) (h2 : pt_okw w = true) : w ∈ lw_all := List.mem_filter.mpr ⟨h, h2⟩
theorem pt_all_tbl {w : Cond} (h : w ∈ lw_all) : w ∈ lw_tbl := (List.mem_filter.mp h).1
theorem pt_pay {args : Array Value} {s : State} (hts : ∀ w ∈ lw_all, w.before args s = true) : ∀ w ∈ lw_all, ∀ (a' : Array Value) (U : State), s.WarmedH U.vm → w.before a' U = true := by
  intro w hw a' U hW
  have h1 := (List.mem_filter.mp hw).2
  have h2 := hts w hw
  unfold pt_okw at h1
  rcases Bool.or_eq_true _ _ ▸ h1 with h1 | h1
  · exact word_at hW (good_of_word h1) h2
  · split at h1
    · exact va_Nw.use rfl (va_Nw.warmM hW (va_Nw.of rfl h2))
    · exact va_Nw.use rfl (va_Nw.warmF hW (va_Nw.of rfl h2))
    · exact va_AO.use (va_AO.moved hW.alike (va_AO.of h2))
    · cases h1
abbrev pt_F (p : Program) (m : MethodId) (c : Code) (cc : ByteArray) (nL : Nat) (s : State) (args : Array Value) (own : String) (D : va_G) (cA : Nat → ClassId) : Prop := CallFix p m c cc nL s args lw_all own ∧ va_K D pt_cl (pt_T cA) s
/-- a method's start, and its end: the engine's objects hold M -/
def pt_P (D : va_G) (cA : Nat → ClassId) (ad : Nat → Nat) (sz : Nat) (M : pt_M) : State → Prop := fun U => U.heap.size = sz ∧ va_P D pt_cl (pt_W cA ad M) U.heap ∧ va_K D pt_cl (pt_T cA) U
def pt_B (D : va_G) (cA : Nat → ClassId) (ad : Nat → Nat) : pt_M → State → Prop := fun M t => va_P D pt_cl (pt_W cA ad M) t.heap
def pt_fr (ad : Nat → Nat) (sz : Nat) : Nat → Prop := fun q => (∃ k, k < 387 ∧ q = ad k) ∨ sz ≤ q
def pt_I (ad : Nat → Nat) : Prop := ∀ i j, i < 387 → j < 387 → ad i = ad j → i = j
theorem pt_D {cA : Nat → ClassId} {ad : Nat → Nat} (hI : pt_I ad) {A : Nat → Prop} (hA : ∀ k, k < 387 → A (ad k)) (M : pt_M) : va_D A (pt_W cA ad M) := by
  have key : ∀ (k : Nat) (q : Nat × va_E), (pt_W cA ad M)[k]? = some q → k < 387 ∧ q.1 = ad k := by
    intro k q h
    have hk : k < 387 := by
      have := (List.getElem?_eq_some_iff.mp h).1
      simpa [pt_W] using this
    rw [pt_W_get hk] at h
    cases h
    exact ⟨hk, rfl⟩
  refine ⟨fun i j p q hi hj e => ?_, fun k q h => ?_⟩
  · obtain ⟨a1, a2⟩ := key i p hi
    obtain ⟨b1, b2⟩ := key j q hj
    exact hI i j a1 b1 (a2.symm.trans (e.trans b2))
  · obtain ⟨a1, a2⟩ := key k q h
    rw [a2]
    exact hA k a1
theorem pt_blind {D : va_G} {cA : Nat → ClassId} {ad : Nat → Nat} {sz : Nat} {M : pt_M} {As : List Value} : FrameBlind (va_Pc As (pt_P D cA ad sz M)) := fun a U g mk q => ⟨q.1, q.2.1, q.2.2.1, va_K.moved (u := U) (U := U.calling g mk a) (Vm.Alike.refl U.vm) q.2.2.2⟩
/-- a boolean -/
def pt_zb (x : Int32) : Prop := x = 0 ∨ x = 1
theorem pt_zb_n {x : Int32} (h : pt_zb x) : narrow .boolean (.int x) = .int x := by rcases h with rfl | rfl <;> rfl
theorem pt_zb_f {x : Int32} (h : pt_zb x) : fits .boolean (.int x) = true := by rcases h with rfl | rfl <;> rfl
section PTR
variable {p : Program} {l : Launch} {e : Env} {R : Room} {s : State} {m : MethodId} {args : Array Value} {below : List Frame} {meth : Method} {c : Code} {H : Heap} {locs : List Loc} {cells slots : Nat} {Q : State → Prop}
variable {cc : ByteArray} {pc nL : Nat} {ls : Array Slot} {rest st : List Value} {D : va_G} {A : Nat → Prop} {cA : Nat → ClassId} {ad : Nat → Nat} {M : pt_M} {H0 : Heap} {own : String} {k : Nat}
theorem pt_get (F : pt_F p m c cc nL s args own D cA) (hP : va_P D pt_cl (pt_W cA ad M) H) {ci : Nat} {fs : List Value} (hc : pt_cel cA ad k (M k) = .inr (ci, fs)) (hk : k < 387) {C ref : String} {T : u_T} {N index : Nat} (hin : ∀ w ∈ u_ws C T N, w ∈ lw_all) (hcl : pt_cl[ci]? = some (C, T, N)) (j : Nat) (hj : j < N) (hlink : Cond.fieldLink own index ref (T j).2.1 (T j).2.2.1 ∈ lw_all) (hsame : (T j).1 = ref) {v : Value} (hv : fs[j]? = some v) (hdg : decode cc pc = .ok (.getfield index, 3))
    (kk : W p l e R s m args below meth c H locs cells slots Q (F0 m (pc + 3) ls (v :: rest))) : W p l e R s m args below meth c H locs cells slots Q (F0 m pc ls (.ref (ad k) :: rest)) :=
  va_get (D := D) (ci := ci) F.1.1 F.1.2.1 F.1.2.2.2.2 hin F.1.2.2.2.1 F.2 hP k (by rw [pt_W_get hk, hc]) hcl j hj (F.1.2.2.2.2 _ hlink) (fun x h => by rw [← hsame]; exact h) hv hdg kk
theorem pt_put (F : pt_F p m c cc nL s args own D cA) (hP : va_P D pt_cl (pt_W cA ad M) H) (hD : ∀ M, va_D A (pt_W cA ad M)) (hS : va_S A H0 H locs) {ci : Nat} {fs : List Value} (hc : pt_cel cA ad k (M k) = .inr (ci, fs)) (hk : k < 387) {C ref : String} {T : u_T} {N index : Nat} (hin : ∀ w ∈ u_ws C T N, w ∈ lw_all) (ty0 : Nat → FieldType) (hty : ∀ k, k < N → parseFieldDescriptor (T k).2.2.1 = some (ty0 k)) (hnm : ∀ a, a < N → ∀ b, b < N → a ≠ b → (T a).2.1 ≠ (T b).2.1) (hcl : pt_cl[ci]? = some (C, T, N)) (j : Nat) (hj : j < N) (hlink : Cond.fieldLink own index ref (T j).2.1 (T j).2.2.1 ∈ lw_all) (hsame : (T j).1 = ref) (hfin : (T j).2.2.2 = false) {x : Int32} (hn : narrow (ty0 j) (.int x) = .int x) (hfit : fits (ty0 j) (.int x) = true) (hl : j < fs.length)
    (hc1 : pt_cel cA ad k (fun b => if b = j then x else M k b) = .inr (ci, fs.set j (.int x))) (hdg : decode cc pc = .ok (.putfield index, 3))
    (kk : ∀ (M1 : pt_M) (H1 : Heap) (locs1 : List Loc), M1 = pt_st M k j x → va_P D pt_cl (pt_W cA ad M1) H1 → va_S A H0 H1 locs1 → W p l e R s m args below meth c H1 locs1 cells slots Q (F0 m (pc + 3) ls rest)) : W p l e R s m args below meth c H locs cells slots Q (F0 m pc ls (.int x :: .ref (ad k) :: rest)) := by
  refine va_put (D := D) (ci := ci) (ty := ty0 j) F.1.1 F.1.2.1 F.1.2.2.2.2 hin ty0 hty hnm F.1.2.2.2.1 F.2 hP (hD M) hS k (fs := fs) (by rw [pt_W_get hk, hc]) hcl j hj (F.1.2.2.2.2 _ hlink) (fun x h => by rw [← hsame]; exact h) hfin (hty j hj) hn hfit hl hdg (fun H1 locs1 g1 _ g3 => ?_)
  rw [pt_W_upd (M1 := pt_st M k j x) hk (by rw [pt_st_k]; exact hc1) (fun a h => pt_st_o h)] at g1
  exact kk _ H1 locs1 rfl g1 g3
theorem pt_iald (F : pt_F p m c cc nL s args own D cA) (hP : va_P D pt_cl (pt_W cA ad M) H) {n : Nat} (h8 : pt_kd k = 8 ∧ pt_len k = n) {i : Int32} (hin : vp_in i n) (hdg : decode cc pc = .ok (.iaload, 1))
    (kk : W p l e R s m args below meth c H locs cells slots Q (F0 m (pc + 1) ls (.int (M k i.toNatClampNeg) :: rest))) : W p l e R s m args below meth c H locs cells slots Q (F0 m pc ls (.int i :: .ref (ad k) :: rest)) :=
  va_iald (D := D) F.1.1 F.1.2.1 F.2 hP k 0 (by rw [pt_W_get (pt_l8 h8.1), pt_c8 _ h8]) rfl hin hdg kk
theorem pt_iast (F : pt_F p m c cc nL s args own D cA) (hP : va_P D pt_cl (pt_W cA ad M) H) (hD : ∀ M, va_D A (pt_W cA ad M)) (hS : va_S A H0 H locs) {n : Nat} (h8 : pt_kd k = 8 ∧ pt_len k = n) {i x : Int32} (hin : vp_in i n) (hdg : decode cc pc = .ok (.iastore, 1))
    (kk : ∀ (M1 : pt_M) (H1 : Heap) (locs1 : List Loc), M1 = pt_st M k i.toNatClampNeg x → va_P D pt_cl (pt_W cA ad M1) H1 → va_S A H0 H1 locs1 → W p l e R s m args below meth c H1 locs1 cells slots Q (F0 m (pc + 1) ls rest)) : W p l e R s m args below meth c H locs cells slots Q (F0 m pc ls (.int x :: .int i :: .ref (ad k) :: rest)) := by
  refine va_iast (D := D) F.1.1 F.1.2.1 F.2 hP (hD M) hS k 0 (by rw [pt_W_get (pt_l8 h8.1), pt_c8 _ h8]) rfl hin hdg (fun H1 locs1 g1 _ g3 => ?_)
  rw [pt_W_upd (M1 := pt_st M k i.toNatClampNeg x) (pt_l8 h8.1) (by rw [pt_st_k]; exact pt_c8 _ h8) (fun a h => pt_st_o h)] at g1
  exact kk _ H1 locs1 rfl g1 g3
theorem pt_alen (F : pt_F p m c cc nL s args own D cA) (hP : va_P D pt_cl (pt_W cA ad M) H) {n : Nat} (h8 : pt_kd k = 8 ∧ pt_len k = n) {v : Int32} (hv : Int32.ofNat n = v) (hdg : decode cc pc = .ok (.arraylength, 1))
    (kk : W p l e R s m args below meth c H locs cells slots Q (F0 m (pc + 1) ls (.int v :: rest))) : W p l e R s m args below meth c H locs cells slots Q (F0 m pc ls (.ref (ad k) :: rest)) :=
  va_alen (D := D) F.1.1 F.1.2.1 F.2 hP k 0 (x := (n, .inl (M k))) (by rw [pt_W_get (pt_l8 h8.1), pt_c8 _ h8]) rfl hv hdg kk
theorem pt_alen11 (F : pt_F p m c cc nL s args own D cA) (hP : va_P D pt_cl (pt_W cA ad M) H) {v : Int32} (hv : Int32.ofNat 60 = v) (hdg : decode cc pc = .ok (.arraylength, 1))
    (kk : W p l e R s m args below meth c H locs cells slots Q (F0 m (pc + 1) ls (.int v :: rest))) : W p l e R s m args below meth c H locs cells slots Q (F0 m pc ls (.ref (ad 143) :: rest)) :=
  va_alen (D := D) F.1.1 F.1.2.1 F.2 hP 143 3 (x := (60, .inr (.inr (.inr (.inr (fun i => some (ad (147 + 4 * i)))))))) (by rw [pt_W_get (by decide), pt_c11]) rfl hv hdg kk
theorem pt_alds (F : pt_F p m c cc nL s args own D cA) (hP : va_P D pt_cl (pt_W cA ad M) H) {i : Int32} (hin : vp_in i 20) (hdg : decode cc pc = .ok (.aaload, 1))
    (kk : W p l e R s m args below meth c H locs cells slots Q (F0 m (pc + 1) ls (.ref (ad (pt_s i)) :: rest))) : W p l e R s m args below meth c H locs cells slots Q (F0 m pc ls (.int i :: .ref (ad 2) :: rest)) :=
  va_aldq (D := D) (f := fun i => some (ad (5 + 3 * i))) F.1.1 F.1.2.1 F.2 hP 2 1 (by rw [pt_W_get (by decide), pt_c9]) rfl hin hdg kk
theorem pt_aldt (F : pt_F p m c cc nL s args own D cA) (hP : va_P D pt_cl (pt_W cA ad M) H) {i : Int32} (hin : vp_in i 30) (hdg : decode cc pc = .ok (.aaload, 1))
    (kk : W p l e R s m args below meth c H locs cells slots Q (F0 m (pc + 1) ls (.ref (ad (pt_t i)) :: rest))) : W p l e R s m args below meth c H locs cells slots Q (F0 m pc ls (.int i :: .ref (ad 3) :: rest)) :=
  va_aldq (D := D) (f := fun i => some (ad (65 + 2 * i))) F.1.1 F.1.2.1 F.2 hP 3 2 (by rw [pt_W_get (by decide), pt_c10]) rfl hin hdg kk
theorem pt_aldq (F : pt_F p m c cc nL s args own D cA) (hP : va_P D pt_cl (pt_W cA ad M) H) {i : Int32} (hin : vp_in i 60) (hdg : decode cc pc = .ok (.aaload, 1))
    (kk : W p l e R s m args below meth c H locs cells slots Q (F0 m (pc + 1) ls (.ref (ad (pt_q i)) :: rest))) : W p l e R s m args below meth c H locs cells slots Q (F0 m pc ls (.int i :: .ref (ad 143) :: rest)) :=
  va_aldq (D := D) (f := fun i => some (ad (147 + 4 * i))) F.1.1 F.1.2.1 F.2 hP 143 3 (by rw [pt_W_get (by decide), pt_c11]) rfl hin hdg kk
theorem pt_cpy (F : pt_F p m c cc nL s args own D cA) (hP : va_P D pt_cl (pt_W cA ad M) H) (hD : ∀ M, va_D A (pt_W cA ad M)) (hS : va_S A H0 H locs) (hsz : ls.size = nL) {index i N : Nat} (h1 : Cond.methodLink own index arraycopyName ∈ lw_all) (h2 : Cond.native arraycopyName ∈ lw_all) (h3 : Cond.static arraycopyName ∈ lw_all) (h4 : Cond.initialized "java/lang/System" ∈ lw_all) (hi : pt_kd i = 8 ∧ pt_len i = N) (hk : pt_kd k = 8 ∧ pt_len k = N) {n : Int32} (hn : ¬ n < 0) (hN : n.toNatClampNeg = N)
    (hframes : 1 ≤ R.frames) (hlocals : (rest.map fun v => v.category).sum + (nativeFrameWords "java/lang/System" "arraycopy" 5 + 11) ≤ R.locals) (hdg : decode cc pc = .ok (.invokestatic index, 3))
    (kk : ∀ (M1 : pt_M) (H1 : Heap) (locs1 : List Loc), M1 = pt_cp M k i N → va_P D pt_cl (pt_W cA ad M1) H1 → va_S A H0 H1 locs1 → W p l e R s m args below meth c H1 locs1 cells slots Q (F0 m (pc + 3) ls rest)) : W p l e R s m args below meth c H locs cells slots Q (F0 m pc ls (.int n :: .int 0 :: .ref (ad k) :: .int 0 :: .ref (ad i) :: rest)) := by
  have hz : (0 : Int32).toNatClampNeg = 0 := by decide
  refine va_copyi (D := D) F.1.1 F.1.2.1 (F.1.2.2.1.trans hsz.symm) F.1.2.2.2.1 (F.1.2.2.2.2 _ h1) (F.1.2.2.2.2 _ h2) (F.1.2.2.2.2 _ h3) (F.1.2.2.2.2 _ h4) F.2 hP (hD M) hS i k 0 0 (ty := .int) (by rw [pt_W_get (pt_l8 hi.1), pt_c8 _ hi]) (by rw [pt_W_get (pt_l8 hk.1), pt_c8 _ hk]) rfl rfl rfl (by decide) (by decide) hn (by rw [hz, hN]; omega) (by rw [hz, hN]; omega) (fun _ _ => rfl) hframes hlocals hdg (fun H1 locs1 g1 _ g3 => ?_)
  rw [hz, hN, pt_W_upd (M1 := pt_cp M k i N) (pt_l8 hk.1) (by rw [pt_cp_k]; exact pt_c8 _ hk) (fun a h => pt_cp_o h)] at g1
  exact kk _ H1 locs1 rfl g1 g3
-- calls
theorem pt_B0 (F : pt_F p m c cc nL s args own D cA) {y : MethodName} {bytes : ByteArray} {maxL index n : Nat} {ret : Option FieldType} {rm : Room} (h1 : Cond.code y bytes maxL ret ∈ lw_all) (h2 : Cond.methodLink own index y ∈ lw_all) (h5 : Cond.initialized y.cls ∈ lw_all) (hd : y.cls ≠ "java/lang/invoke/MethodHandle" ∧ y.cls ≠ "java/lang/invoke/VarHandle" ∧ (parseMethodDescriptor y.desc).map (fun d => d.parameters.length) = some n) (hrm : rm.cells = 0 ∧ rm.slots = 0 ∧ rm.frames + 1 ≤ R.frames ∧ 8 + (maxL + 11) + rm.locals ≤ R.locals) :
    CallB R s args own index y bytes maxL ret (Cond.code y bytes maxL ret :: lw_all) rm 0 0 n := by
  have hts := F.1.2.2.2.2
  refine ⟨hrm.1, hrm.2.1, hrm.2.2.1, hrm.2.2.2, ?_, List.mem_cons_self, hts _ h1, hts _ h5, ⟨hd.1, hd.2.1⟩, fun sig h => ?_, hts _ h2⟩
  · intro w hw a' U hW
    rcases List.mem_cons.mp hw with rfl | hw
    · exact pt_pay hts _ h1 a' U hW
    · exact pt_pay hts _ hw a' U hW
  · have h6 := hd.2.2
    rw [h] at h6
    exact (Option.some.inj h6).symm
theorem pt_pre (F : pt_F p m c cc nL s args own D cA) (hP : va_P D pt_cl (pt_W cA ad M) H) {As : List Value} (U : State) (hU : U.heap = H) (hW : s.WarmedH U.vm) : va_Pc As (pt_P D cA ad H.size M) As.toArray U := ⟨rfl, by rw [hU], by rw [hU]; exact hP, va_K.moved hW.alike F.2⟩
theorem pt_runV (F : pt_F p m c cc nL s args own D cA) (hP : va_P D pt_cl (pt_W cA ad M) H) {ci : Nat} {fs As : List Value} (hc : pt_cel cA ad k (M k) = .inr (ci, fs)) (hk : k < 387) {C : String} {T : u_T} {N : Nat} (hcl : pt_cl[ci]? = some (C, T, N)) {y : MethodName} {bytes : ByteArray} {maxL index n : Nat} {ret : Option FieldType} {rm : Room} {Qc : Array Value → State → Outcome → State → Prop} {free : Addr → Prop}
    (hM : Met l y (Cond.code y bytes maxL ret :: lw_all) rm (va_Pc (.ref (ad k) :: As) (pt_P D cA ad H.size M)) Qc 0 0 free) (h1 : Cond.code y bytes maxL ret ∈ lw_all) (h2 : Cond.methodLink own index y ∈ lw_all) (h5 : Cond.initialized y.cls ∈ lw_all) (h3 : Cond.instanceMethod y ∈ lw_all) (h4 : Cond.selects C y y ∈ lw_all) (hd : y.cls ≠ "java/lang/invoke/MethodHandle" ∧ y.cls ≠ "java/lang/invoke/VarHandle" ∧ (parseMethodDescriptor y.desc).map (fun d => d.parameters.length) = some n) (hrm : rm.cells = 0 ∧ rm.slots = 0 ∧ rm.frames + 1 ≤ R.frames ∧ 8 + (maxL + 11) + rm.locals ≤ R.locals)
    (hn : As.length = n) (hsz : ls.size = nL) (hst : st = As.reverse ++ .ref (ad k) :: rest) (hW : (rest.map fun v => v.category).sum ≤ 8) (hdg : decode cc pc = .ok (.invokevirtual index, 3)) (hcs : cells + 0 ≤ R.cells ∧ slots + 0 ≤ R.slots) :
    va_Run p l e R s m args below meth c H locs cells slots 0 0 (F0 m pc ls st) rest (Qc (Value.ref (ad k) :: As).toArray) free :=
  va_runV (C := C) (b := ad k) (As := As) (rest := rest) F.1 hM ⟨pt_B0 F h1 h2 h5 hd hrm, F.1.2.2.2.2 _ h3, F.1.2.2.2.2 _ h4⟩ ⟨pt_blind, va_recv F.2 hP (ci := ci) (q0 := k) hcl (by rw [pt_W_get hk, hc]), pt_pre F hP⟩ rfl hn hsz hst (lv_room hW) hdg hcs
theorem pt_runS (F : pt_F p m c cc nL s args own D cA) (hP : va_P D pt_cl (pt_W cA ad M) H) {As : List Value} {y : MethodName} {bytes : ByteArray} {maxL index n : Nat} {ret : Option FieldType} {rm : Room} {Qc : Array Value → State → Outcome → State → Prop} {free : Addr → Prop}
    (hM : Met l y (Cond.code y bytes maxL ret :: lw_all) rm (va_Pc As (pt_P D cA ad H.size M)) Qc 0 0 free) (h1 : Cond.code y bytes maxL ret ∈ lw_all) (h2 : Cond.methodLink own index y ∈ lw_all) (h5 : Cond.initialized y.cls ∈ lw_all) (h3 : Cond.static y ∈ lw_all) (hd : y.cls ≠ "java/lang/invoke/MethodHandle" ∧ y.cls ≠ "java/lang/invoke/VarHandle" ∧ (parseMethodDescriptor y.desc).map (fun d => d.parameters.length) = some n) (hrm : rm.cells = 0 ∧ rm.slots = 0 ∧ rm.frames + 1 ≤ R.frames ∧ 8 + (maxL + 11) + rm.locals ≤ R.locals)
    (hn : As.length = n) (hsz : ls.size = nL) (hst : st = As.reverse ++ rest) (hW : (rest.map fun v => v.category).sum ≤ 8) (hdg : decode cc pc = .ok (.invokestatic index, 3)) (hcs : cells + 0 ≤ R.cells ∧ slots + 0 ≤ R.slots) :
    va_Run p l e R s m args below meth c H locs cells slots 0 0 (F0 m pc ls st) rest (Qc As.toArray) free :=
  va_runS (As := As) (rest := rest) F.1 hM ⟨pt_B0 F h1 h2 h5 hd hrm, F.1.2.2.2.2 _ h3⟩ ⟨pt_blind, pt_pre F hP⟩ rfl hn hsz hst (lv_room hW) hdg hcs
theorem pt_runSN (F : pt_F p m c cc nL s args own D cA) (hP : va_P D pt_cl (pt_W cA ad M) H) {As : List Value} {y : MethodName} {bytes : ByteArray} {maxL index n : Nat} {ret : Option FieldType} {rm : Room} {Qc : Array Value → State → Outcome → State → Prop} {free : Addr → Prop} {host : String}
    (hM : Met l y (Cond.code y bytes maxL ret :: lw_all) rm (va_Pc As (pt_P D cA ad H.size M)) Qc 0 0 free) (h1 : Cond.code y bytes maxL ret ∈ lw_all) (h2 : Cond.methodLinkNest own index y host ∈ lw_all) (h5 : Cond.initialized y.cls ∈ lw_all) (h3 : Cond.static y ∈ lw_all) (hd : y.cls ≠ "java/lang/invoke/MethodHandle" ∧ y.cls ≠ "java/lang/invoke/VarHandle" ∧ (parseMethodDescriptor y.desc).map (fun d => d.parameters.length) = some n) (hrm : rm.cells = 0 ∧ rm.slots = 0 ∧ rm.frames + 1 ≤ R.frames ∧ 8 + (maxL + 11) + rm.locals ≤ R.locals)
    (hn : As.length = n) (hsz : ls.size = nL) (hst : st = As.reverse ++ rest) (hW : (rest.map fun v => v.category).sum ≤ 8) (hdg : decode cc pc = .ok (.invokestatic index, 3)) (hcs : cells + 0 ≤ R.cells ∧ slots + 0 ≤ R.slots) :
    va_Run p l e R s m args below meth c H locs cells slots 0 0 (F0 m pc ls st) rest (Qc As.toArray) free := by
  have hts := F.1.2.2.2.2
  refine va_runSN (As := As) (rest := rest) F.1 hM ⟨⟨⟨hrm.1, hrm.2.1, hrm.2.2.1, hrm.2.2.2, ?_, List.mem_cons_self⟩, hts _ h1, hts _ h5, ⟨hd.1, hd.2.1⟩, fun sig h => ?_, hts _ h2⟩, hts _ h3, trivial⟩ ⟨pt_blind, pt_pre F hP⟩ rfl hn hsz hst (lv_room hW) hdg hcs
  · intro w hw a' U hW
    rcases List.mem_cons.mp hw with rfl | hw
    · exact pt_pay hts _ h1 a' U hW
    · exact pt_pay hts _ hw a' U hW
  · have h6 := hd.2.2
    rw [h] at h6
    exact (Option.some.inj h6).symm
theorem pt_frA (hS : va_S A H0 H locs) (hA : ∀ q, pt_fr ad H0.size q → A q) : (∀ q, q < H.size → pt_fr ad H.size q → A q) ∧ (∀ q, pt_fr ad H.size q → A q) := by
  have h2 : ∀ q, pt_fr ad H.size q → A q := by
    intro q h
    rcases h with h | h
    · exact hA q (Or.inl h)
    · exact hA q (Or.inr (Nat.le_trans hS.1 h))
  exact ⟨fun q _ h => h2 q h, h2⟩
variable {a : Array Value}
theorem pt_calli {Qi : Int32 → pt_M → Prop} (hr : va_Run p l e R s m args below meth c H locs cells slots 0 0 (F0 m pc ls st) rest (va_Qi Qi (pt_B D cA ad) (pt_fr ad H.size) a) (pt_fr ad H.size)) (hS : va_S A H0 H locs) (hA : ∀ q, pt_fr ad H0.size q → A q)
    (kk : ∀ (r : Int32) (M1 : pt_M) (H1 : Heap) (locs1 : List Loc), Qi r M1 → va_P D pt_cl (pt_W cA ad M1) H1 → va_S A H0 H1 locs1 → H.size ≤ H1.size → (∀ q : Nat, q < H.size → ¬ pt_fr ad H.size q → H1[q]? = H[q]?) → W p l e R s m args below meth c H1 locs1 cells slots Q (F0 m (pc + 3) ls (.int r :: rest))) : W p l e R s m args below meth c H locs cells slots Q (F0 m pc ls st) :=
  va_calli hr hS (pt_frA hS hA).1 (pt_frA hS hA).2 (fun r M1 t H1 locs1 ht _ hq hB hz ho hS1 => kk r M1 H1 locs1 hq (by rw [← ht]; exact hB) hS1 hz ho)
theorem pt_calll {Qi : Int64 → pt_M → Prop} (hr : va_Run p l e R s m args below meth c H locs cells slots 0 0 (F0 m pc ls st) rest (va_Ql Qi (pt_B D cA ad) (pt_fr ad H.size) a) (pt_fr ad H.size)) (hS : va_S A H0 H locs) (hA : ∀ q, pt_fr ad H0.size q → A q)
    (kk : ∀ (r : Int64) (M1 : pt_M) (H1 : Heap) (locs1 : List Loc), Qi r M1 → va_P D pt_cl (pt_W cA ad M1) H1 → va_S A H0 H1 locs1 → H.size ≤ H1.size → (∀ q : Nat, q < H.size → ¬ pt_fr ad H.size q → H1[q]? = H[q]?) → W p l e R s m args below meth c H1 locs1 cells slots Q (F0 m (pc + 3) ls (.long r :: rest))) : W p l e R s m args below meth c H locs cells slots Q (F0 m pc ls st) :=
  va_calll hr hS (pt_frA hS hA).1 (pt_frA hS hA).2 (fun r M1 t H1 locs1 ht _ hq hB hz ho hS1 => kk r M1 H1 locs1 hq (by rw [← ht]; exact hB) hS1 hz ho)
theorem pt_calld {Qi : UInt64 → pt_M → Prop} (hr : va_Run p l e R s m args below meth c H locs cells slots 0 0 (F0 m pc ls st) rest (va_Qd Qi (pt_B D cA ad) (pt_fr ad H.size) a) (pt_fr ad H.size)) (hS : va_S A H0 H locs) (hA : ∀ q, pt_fr ad H0.size q → A q)
    (kk : ∀ (r : UInt64) (M1 : pt_M) (H1 : Heap) (locs1 : List Loc), Qi r M1 → va_P D pt_cl (pt_W cA ad M1) H1 → va_S A H0 H1 locs1 → H.size ≤ H1.size → (∀ q : Nat, q < H.size → ¬ pt_fr ad H.size q → H1[q]? = H[q]?) → W p l e R s m args below meth c H1 locs1 cells slots Q (F0 m (pc + 3) ls (.double r :: rest))) : W p l e R s m args below meth c H locs cells slots Q (F0 m pc ls st) :=
  va_calld hr hS (pt_frA hS hA).1 (pt_frA hS hA).2 (fun r M1 t H1 locs1 ht _ hq hB hz ho hS1 => kk r M1 H1 locs1 hq (by rw [← ht]; exact hB) hS1 hz ho)
theorem pt_callv {Qi : pt_M → Prop} (hr : va_Run p l e R s m args below meth c H locs cells slots 0 0 (F0 m pc ls st) rest (va_Qv Qi (pt_B D cA ad) (pt_fr ad H.size) a) (pt_fr ad H.size)) (hS : va_S A H0 H locs) (hA : ∀ q, pt_fr ad H0.size q → A q)
    (kk : ∀ (M1 : pt_M) (H1 : Heap) (locs1 : List Loc), Qi M1 → va_P D pt_cl (pt_W cA ad M1) H1 → va_S A H0 H1 locs1 → H.size ≤ H1.size → (∀ q : Nat, q < H.size → ¬ pt_fr ad H.size q → H1[q]? = H[q]?) → W p l e R s m args below meth c H1 locs1 cells slots Q (F0 m (pc + 3) ls rest)) : W p l e R s m args below meth c H locs cells slots Q (F0 m pc ls st) :=
  va_callv hr hS (pt_frA hS hA).1 (pt_frA hS hA).2 (fun M1 t H1 locs1 ht _ hq hB hz ho hS1 => kk M1 H1 locs1 hq (by rw [← ht]; exact hB) hS1 hz ho)
end PTR
set_option maxRecDepth 100000 in
theorem inX0 : ∀ w ∈ u_ws RX0 TX0 3, w ∈ lw_all := by decide +kernel
set_option maxRecDepth 100000 in
theorem inX1 : ∀ w ∈ u_ws RX1 TX1 7, w ∈ lw_all := by decide +kernel
set_option maxRecDepth 100000 in
theorem inX2 : ∀ w ∈ u_ws RX2 TX2 9, w ∈ lw_all := by decide +kernel
set_option maxRecDepth 100000 in
theorem inX3 : ∀ w ∈ u_ws RX3 TX3 11, w ∈ lw_all := by decide +kernel
set_option maxRecDepth 100000 in
theorem inX4 : ∀ w ∈ u_ws RX4 TX4 4, w ∈ lw_all := by decide +kernel
set_option maxRecDepth 100000 in
theorem inX5 : ∀ w ∈ u_ws RX5 TX5 9, w ∈ lw_all := by decide +kernel
set_option maxRecDepth 100000 in
theorem inX6 : ∀ w ∈ u_ws RX6 TX6 9, w ∈ lw_all := by decide +kernel
set_option maxRecDepth 100000 in
theorem inX7 : ∀ w ∈ u_ws RX7 TX7 5, w ∈ lw_all := by decide +kernel
end
section
-- the places of the words
theorem kw_5 : (Jvm.Cond.selects "PuppetTheatre$Chart" ({ cls := "PuppetTheatre$Chart", name := "scopeOf", desc := "(II)I" } : Jvm.MethodName) ({ cls := "PuppetTheatre$Chart", name := "scopeOf", desc := "(II)I" } : Jvm.MethodName)) ∈ lw_all := pt_all (List.mem_of_getElem? (i := 5) (by decide +kernel)) (by decide +kernel)
theorem kw_6 : (Jvm.Cond.selects "PuppetTheatre$Play" ({ cls := "PuppetTheatre$Play", name := "act", desc := "(LPuppetTheatre$Action;)V" } : Jvm.MethodName) ({ cls := "PuppetTheatre$Play", name := "act", desc := "(LPuppetTheatre$Action;)V" } : Jvm.MethodName)) ∈ lw_all := pt_all (List.mem_of_getElem? (i := 6) (by decide +kernel)) (by decide +kernel)
theorem kw_7 : (Jvm.Cond.selects "PuppetTheatre$Play" ({ cls := "PuppetTheatre$Play", name := "raise", desc := "(I)V" } : Jvm.MethodName) ({ cls := "PuppetTheatre$Play", name := "raise", desc := "(I)V" } : Jvm.MethodName)) ∈ lw_all := pt_all (List.mem_of_getElem? (i := 7) (by decide +kernel)) (by decide +kernel)
theorem kw_8 : (Jvm.Cond.selects "PuppetTheatre$Play" ({ cls := "PuppetTheatre$Play", name := "loseQueue", desc := "()V" } : Jvm.MethodName) ({ cls := "PuppetTheatre$Play", name := "loseQueue", desc := "()V" } : Jvm.MethodName)) ∈ lw_all := pt_all (List.mem_of_getElem? (i := 8) (by decide +kernel)) (by decide +kernel)
theorem kw_9 : (Jvm.Cond.selects "PuppetTheatre$Play" ({ cls := "PuppetTheatre$Play", name := "growOlder", desc := "()V" } : Jvm.MethodName) ({ cls := "PuppetTheatre$Play", name := "growOlder", desc := "()V" } : Jvm.MethodName)) ∈ lw_all := pt_all (List.mem_of_getElem? (i := 9) (by decide +kernel)) (by decide +kernel)
theorem kw_10 : (Jvm.Cond.selects "PuppetTheatre$Play" ({ cls := "PuppetTheatre$Play", name := "step", desc := "(I)I" } : Jvm.MethodName) ({ cls := "PuppetTheatre$Play", name := "step", desc := "(I)I" } : Jvm.MethodName)) ∈ lw_all := pt_all (List.mem_of_getElem? (i := 10) (by decide +kernel)) (by decide +kernel)
theorem kw_11 : (Jvm.Cond.selects "PuppetTheatre$Play" ({ cls := "PuppetTheatre$Play", name := "isOpen", desc := "(LPuppetTheatre$Transition;I)Z" } : Jvm.MethodName) ({ cls := "PuppetTheatre$Play", name := "isOpen", desc := "(LPuppetTheatre$Transition;I)Z" } : Jvm.MethodName)) ∈ lw_all := pt_all (List.mem_of_getElem? (i := 11) (by decide +kernel)) (by decide +kernel)
theorem kw_12 : (Jvm.Cond.selects "PuppetTheatre$Play" ({ cls := "PuppetTheatre$Play", name := "choose", desc := "(I)V" } : Jvm.MethodName) ({ cls := "PuppetTheatre$Play", name := "choose", desc := "(I)V" } : Jvm.MethodName)) ∈ lw_all := pt_all (List.mem_of_getElem? (i := 12) (by decide +kernel)) (by decide +kernel)
theorem kw_13 : (Jvm.Cond.selects "PuppetTheatre$Play" ({ cls := "PuppetTheatre$Play", name := "nearestOpen", desc := "(II)I" } : Jvm.MethodName) ({ cls := "PuppetTheatre$Play", name := "nearestOpen", desc := "(II)I" } : Jvm.MethodName)) ∈ lw_all := pt_all (List.mem_of_getElem? (i := 13) (by decide +kernel)) (by decide +kernel)
theorem kw_14 : (Jvm.Cond.selects "PuppetTheatre$Play" ({ cls := "PuppetTheatre$Play", name := "takeIfFree", desc := "(I)V" } : Jvm.MethodName) ({ cls := "PuppetTheatre$Play", name := "takeIfFree", desc := "(I)V" } : Jvm.MethodName)) ∈ lw_all := pt_all (List.mem_of_getElem? (i := 14) (by decide +kernel)) (by decide +kernel)
theorem kw_15 : (Jvm.Cond.selects "PuppetTheatre$Play" ({ cls := "PuppetTheatre$Play", name := "leftBy", desc := "(LPuppetTheatre$Transition;)I" } : Jvm.MethodName) ({ cls := "PuppetTheatre$Play", name := "leftBy", desc := "(LPuppetTheatre$Transition;)I" } : Jvm.MethodName)) ∈ lw_all := pt_all (List.mem_of_getElem? (i := 15) (by decide +kernel)) (by decide +kernel)
theorem kw_16 : (Jvm.Cond.selects "PuppetTheatre$Play" ({ cls := "PuppetTheatre$Play", name := "makeRecords", desc := "(I)V" } : Jvm.MethodName) ({ cls := "PuppetTheatre$Play", name := "makeRecords", desc := "(I)V" } : Jvm.MethodName)) ∈ lw_all := pt_all (List.mem_of_getElem? (i := 16) (by decide +kernel)) (by decide +kernel)
theorem kw_17 : (Jvm.Cond.selects "PuppetTheatre$Play" ({ cls := "PuppetTheatre$Play", name := "leave", desc := "(I)V" } : Jvm.MethodName) ({ cls := "PuppetTheatre$Play", name := "leave", desc := "(I)V" } : Jvm.MethodName)) ∈ lw_all := pt_all (List.mem_of_getElem? (i := 17) (by decide +kernel)) (by decide +kernel)
theorem kw_18 : (Jvm.Cond.selects "PuppetTheatre$Play" ({ cls := "PuppetTheatre$Play", name := "targetsOf", desc := "(LPuppetTheatre$Transition;)I" } : Jvm.MethodName) ({ cls := "PuppetTheatre$Play", name := "targetsOf", desc := "(LPuppetTheatre$Transition;)I" } : Jvm.MethodName)) ∈ lw_all := pt_all (List.mem_of_getElem? (i := 18) (by decide +kernel)) (by decide +kernel)
theorem kw_19 : (Jvm.Cond.selects "PuppetTheatre$Chart" ({ cls := "PuppetTheatre$Chart", name := "partsAside", desc := "(II)I" } : Jvm.MethodName) ({ cls := "PuppetTheatre$Chart", name := "partsAside", desc := "(II)I" } : Jvm.MethodName)) ∈ lw_all := pt_all (List.mem_of_getElem? (i := 19) (by decide +kernel)) (by decide +kernel)
theorem kw_20 : (Jvm.Cond.selects "PuppetTheatre$Play" ({ cls := "PuppetTheatre$Play", name := "nextEvent", desc := "()I" } : Jvm.MethodName) ({ cls := "PuppetTheatre$Play", name := "nextEvent", desc := "()I" } : Jvm.MethodName)) ∈ lw_all := pt_all (List.mem_of_getElem? (i := 20) (by decide +kernel)) (by decide +kernel)
theorem kw_52 : (Jvm.Cond.initialized "PuppetTheatre") ∈ lw_all := pt_all (List.mem_of_getElem? (i := 52) (by decide +kernel)) (by decide +kernel)
theorem kw_53 : (Jvm.Cond.initialized "PuppetTheatre$Chart") ∈ lw_all := pt_all (List.mem_of_getElem? (i := 53) (by decide +kernel)) (by decide +kernel)
theorem kw_54 : (Jvm.Cond.initialized "PuppetTheatre$State") ∈ lw_all := pt_all (List.mem_of_getElem? (i := 54) (by decide +kernel)) (by decide +kernel)
theorem kw_56 : (Jvm.Cond.initialized "PuppetTheatre$Transition") ∈ lw_all := pt_all (List.mem_of_getElem? (i := 56) (by decide +kernel)) (by decide +kernel)
theorem kw_57 : (Jvm.Cond.initialized "PuppetTheatre$Play") ∈ lw_all := pt_all (List.mem_of_getElem? (i := 57) (by decide +kernel)) (by decide +kernel)
theorem kw_58 : (Jvm.Cond.initialized "PuppetTheatre$Situation") ∈ lw_all := pt_all (List.mem_of_getElem? (i := 58) (by decide +kernel)) (by decide +kernel)
theorem kw_68 : (Jvm.Cond.initialized "java/lang/Math") ∈ lw_all := pt_all (List.mem_of_getElem? (i := 68) (by decide +kernel)) (by decide +kernel)
theorem kw_70 : (Jvm.Cond.initialized "java/lang/System") ∈ lw_all := pt_all (List.mem_of_getElem? (i := 70) (by decide +kernel)) (by decide +kernel)
theorem kw_80 : (Jvm.Cond.initialized "java/lang/Integer") ∈ lw_all := pt_all (List.mem_of_getElem? (i := 80) (by decide +kernel)) (by decide +kernel)
theorem kw_101 : (Jvm.Cond.methodLinkNest "PuppetTheatre$Chart" (31 : Nat) ({ cls := "PuppetTheatre", name := "setOf", desc := "(I)I" } : Jvm.MethodName) "PuppetTheatre") ∈ lw_all := pt_all (List.mem_of_getElem? (i := 101) (by decide +kernel)) (by decide +kernel)
theorem kw_102 : (Jvm.Cond.static ({ cls := "PuppetTheatre", name := "setOf", desc := "(I)I" } : Jvm.MethodName)) ∈ lw_all := pt_all (List.mem_of_getElem? (i := 102) (by decide +kernel)) (by decide +kernel)
theorem kw_103 : (Jvm.Cond.code ({ cls := "PuppetTheatre", name := "setOf", desc := "(I)I" } : Jvm.MethodName) prog_1_method_48_code (1 : Nat) (Option.some Jvm.ClassFile.FieldType.int)) ∈ lw_all := pt_all (List.mem_of_getElem? (i := 103) (by decide +kernel)) (by decide +kernel)
theorem kw_115 : (Jvm.Cond.fieldLink "PuppetTheatre$Action" (7 : Nat) "PuppetTheatre$Action" "code" "I") ∈ lw_all := pt_all (List.mem_of_getElem? (i := 115) (by decide +kernel)) (by decide +kernel)
theorem kw_116 : (Jvm.Cond.fieldLink "PuppetTheatre$Play" (222 : Nat) "PuppetTheatre$Action" "code" "I") ∈ lw_all := pt_all (List.mem_of_getElem? (i := 116) (by decide +kernel)) (by decide +kernel)
theorem kw_117 : (Jvm.Cond.fieldLink "PuppetTheatre$Action" (13 : Nat) "PuppetTheatre$Action" "what" "I") ∈ lw_all := pt_all (List.mem_of_getElem? (i := 117) (by decide +kernel)) (by decide +kernel)
theorem kw_118 : (Jvm.Cond.fieldLink "PuppetTheatre$Play" (227 : Nat) "PuppetTheatre$Action" "what" "I") ∈ lw_all := pt_all (List.mem_of_getElem? (i := 118) (by decide +kernel)) (by decide +kernel)
theorem kw_119 : (Jvm.Cond.fieldLink "PuppetTheatre$Action" (16 : Nat) "PuppetTheatre$Action" "n" "I") ∈ lw_all := pt_all (List.mem_of_getElem? (i := 119) (by decide +kernel)) (by decide +kernel)
theorem kw_120 : (Jvm.Cond.fieldLink "PuppetTheatre$Play" (230 : Nat) "PuppetTheatre$Action" "n" "I") ∈ lw_all := pt_all (List.mem_of_getElem? (i := 120) (by decide +kernel)) (by decide +kernel)
theorem kw_131 : (Jvm.Cond.fieldLink "PuppetTheatre$Play" (216 : Nat) "PuppetTheatre$State" "entering" "LPuppetTheatre$Action;") ∈ lw_all := pt_all (List.mem_of_getElem? (i := 131) (by decide +kernel)) (by decide +kernel)
theorem kw_134 : (Jvm.Cond.fieldLink "PuppetTheatre$Play" (213 : Nat) "PuppetTheatre$State" "leaving" "LPuppetTheatre$Action;") ∈ lw_all := pt_all (List.mem_of_getElem? (i := 134) (by decide +kernel)) (by decide +kernel)
theorem kw_135 : (Jvm.Cond.fieldLink "PuppetTheatre$State" (21 : Nat) "PuppetTheatre$State" "kind" "I") ∈ lw_all := pt_all (List.mem_of_getElem? (i := 135) (by decide +kernel)) (by decide +kernel)
theorem kw_136 : (Jvm.Cond.fieldLink "PuppetTheatre$Chart" (40 : Nat) "PuppetTheatre$State" "kind" "I") ∈ lw_all := pt_all (List.mem_of_getElem? (i := 136) (by decide +kernel)) (by decide +kernel)
theorem kw_138 : (Jvm.Cond.fieldLink "PuppetTheatre$Play" (207 : Nat) "PuppetTheatre$State" "kind" "I") ∈ lw_all := pt_all (List.mem_of_getElem? (i := 138) (by decide +kernel)) (by decide +kernel)
theorem kw_140 : (Jvm.Cond.fieldLink "PuppetTheatre$Chart" (43 : Nat) "PuppetTheatre$State" "parent" "I") ∈ lw_all := pt_all (List.mem_of_getElem? (i := 140) (by decide +kernel)) (by decide +kernel)
theorem kw_142 : (Jvm.Cond.fieldLink "PuppetTheatre$Play" (204 : Nat) "PuppetTheatre$State" "parent" "I") ∈ lw_all := pt_all (List.mem_of_getElem? (i := 142) (by decide +kernel)) (by decide +kernel)
theorem kw_143 : (Jvm.Cond.fieldLink "PuppetTheatre$State" (28 : Nat) "PuppetTheatre$State" "first" "I") ∈ lw_all := pt_all (List.mem_of_getElem? (i := 143) (by decide +kernel)) (by decide +kernel)
theorem kw_145 : (Jvm.Cond.fieldLink "PuppetTheatre$Play" (54 : Nat) "PuppetTheatre$State" "parts" "I") ∈ lw_all := pt_all (List.mem_of_getElem? (i := 145) (by decide +kernel)) (by decide +kernel)
theorem kw_147 : (Jvm.Cond.fieldLink "PuppetTheatre$State" (38 : Nat) "PuppetTheatre$State" "parts" "I") ∈ lw_all := pt_all (List.mem_of_getElem? (i := 147) (by decide +kernel)) (by decide +kernel)
theorem kw_148 : (Jvm.Cond.fieldLink "PuppetTheatre$Chart" (101 : Nat) "PuppetTheatre$State" "parts" "I") ∈ lw_all := pt_all (List.mem_of_getElem? (i := 148) (by decide +kernel)) (by decide +kernel)
theorem kw_149 : (Jvm.Cond.fieldLink "PuppetTheatre$State" (35 : Nat) "PuppetTheatre$State" "filledWith" "I") ∈ lw_all := pt_all (List.mem_of_getElem? (i := 149) (by decide +kernel)) (by decide +kernel)
theorem kw_150 : (Jvm.Cond.fieldLink "PuppetTheatre$Chart" (92 : Nat) "PuppetTheatre$State" "filledWith" "I") ∈ lw_all := pt_all (List.mem_of_getElem? (i := 150) (by decide +kernel)) (by decide +kernel)
theorem kw_151 : (Jvm.Cond.fieldLink "PuppetTheatre$Play" (219 : Nat) "PuppetTheatre$State" "filledWith" "I") ∈ lw_all := pt_all (List.mem_of_getElem? (i := 151) (by decide +kernel)) (by decide +kernel)
theorem kw_152 : (Jvm.Cond.fieldLink "PuppetTheatre$Chart" (46 : Nat) "PuppetTheatre$State" "beneath" "I") ∈ lw_all := pt_all (List.mem_of_getElem? (i := 152) (by decide +kernel)) (by decide +kernel)
theorem kw_153 : (Jvm.Cond.fieldLink "PuppetTheatre$Play" (187 : Nat) "PuppetTheatre$State" "beneath" "I") ∈ lw_all := pt_all (List.mem_of_getElem? (i := 153) (by decide +kernel)) (by decide +kernel)
theorem kw_154 : (Jvm.Cond.fieldLink "PuppetTheatre$Chart" (86 : Nat) "PuppetTheatre$State" "departing" "I") ∈ lw_all := pt_all (List.mem_of_getElem? (i := 154) (by decide +kernel)) (by decide +kernel)
theorem kw_155 : (Jvm.Cond.fieldLink "PuppetTheatre$Play" (190 : Nat) "PuppetTheatre$State" "departing" "I") ∈ lw_all := pt_all (List.mem_of_getElem? (i := 155) (by decide +kernel)) (by decide +kernel)
theorem kw_184 : (Jvm.Cond.fieldLink "PuppetTheatre$Play" (120 : Nat) "PuppetTheatre$Transition" "action" "LPuppetTheatre$Action;") ∈ lw_all := pt_all (List.mem_of_getElem? (i := 184) (by decide +kernel)) (by decide +kernel)
theorem kw_185 : (Jvm.Cond.fieldLink "PuppetTheatre$Chart" (67 : Nat) "PuppetTheatre$Transition" "from" "I") ∈ lw_all := pt_all (List.mem_of_getElem? (i := 185) (by decide +kernel)) (by decide +kernel)
theorem kw_186 : (Jvm.Cond.fieldLink "PuppetTheatre$Play" (162 : Nat) "PuppetTheatre$Transition" "from" "I") ∈ lw_all := pt_all (List.mem_of_getElem? (i := 186) (by decide +kernel)) (by decide +kernel)
theorem kw_187 : (Jvm.Cond.fieldLink "PuppetTheatre$Chart" (70 : Nat) "PuppetTheatre$Transition" "trigger" "I") ∈ lw_all := pt_all (List.mem_of_getElem? (i := 187) (by decide +kernel)) (by decide +kernel)
theorem kw_188 : (Jvm.Cond.fieldLink "PuppetTheatre$Play" (172 : Nat) "PuppetTheatre$Transition" "trigger" "I") ∈ lw_all := pt_all (List.mem_of_getElem? (i := 188) (by decide +kernel)) (by decide +kernel)
theorem kw_189 : (Jvm.Cond.fieldLink "PuppetTheatre$Chart" (73 : Nat) "PuppetTheatre$Transition" "n" "I") ∈ lw_all := pt_all (List.mem_of_getElem? (i := 189) (by decide +kernel)) (by decide +kernel)
theorem kw_190 : (Jvm.Cond.fieldLink "PuppetTheatre$Play" (175 : Nat) "PuppetTheatre$Transition" "n" "I") ∈ lw_all := pt_all (List.mem_of_getElem? (i := 190) (by decide +kernel)) (by decide +kernel)
theorem kw_192 : (Jvm.Cond.fieldLink "PuppetTheatre$Chart" (76 : Nat) "PuppetTheatre$Transition" "to" "I") ∈ lw_all := pt_all (List.mem_of_getElem? (i := 192) (by decide +kernel)) (by decide +kernel)
theorem kw_193 : (Jvm.Cond.fieldLink "PuppetTheatre$Play" (130 : Nat) "PuppetTheatre$Transition" "to" "I") ∈ lw_all := pt_all (List.mem_of_getElem? (i := 193) (by decide +kernel)) (by decide +kernel)
theorem kw_195 : (Jvm.Cond.fieldLink "PuppetTheatre$Chart" (83 : Nat) "PuppetTheatre$Transition" "scope" "I") ∈ lw_all := pt_all (List.mem_of_getElem? (i := 195) (by decide +kernel)) (by decide +kernel)
theorem kw_196 : (Jvm.Cond.fieldLink "PuppetTheatre$Play" (136 : Nat) "PuppetTheatre$Transition" "scope" "I") ∈ lw_all := pt_all (List.mem_of_getElem? (i := 196) (by decide +kernel)) (by decide +kernel)
theorem kw_197 : (Jvm.Cond.fieldLink "PuppetTheatre$Transition" (25 : Nat) "PuppetTheatre$Transition" "how" "I") ∈ lw_all := pt_all (List.mem_of_getElem? (i := 197) (by decide +kernel)) (by decide +kernel)
theorem kw_199 : (Jvm.Cond.fieldLink "PuppetTheatre$Transition" (28 : Nat) "PuppetTheatre$Transition" "variable" "I") ∈ lw_all := pt_all (List.mem_of_getElem? (i := 199) (by decide +kernel)) (by decide +kernel)
theorem kw_201 : (Jvm.Cond.fieldLink "PuppetTheatre$Transition" (31 : Nat) "PuppetTheatre$Transition" "bound" "I") ∈ lw_all := pt_all (List.mem_of_getElem? (i := 201) (by decide +kernel)) (by decide +kernel)
theorem kw_222 : (Jvm.Cond.fieldLink "PuppetTheatre$Chart" (11 : Nat) "PuppetTheatre$Chart" "states" "[LPuppetTheatre$State;") ∈ lw_all := pt_all (List.mem_of_getElem? (i := 222) (by decide +kernel)) (by decide +kernel)
theorem kw_224 : (Jvm.Cond.fieldLink "PuppetTheatre$Play" (48 : Nat) "PuppetTheatre$Chart" "states" "[LPuppetTheatre$State;") ∈ lw_all := pt_all (List.mem_of_getElem? (i := 224) (by decide +kernel)) (by decide +kernel)
theorem kw_225 : (Jvm.Cond.fieldLink "PuppetTheatre$Chart" (19 : Nat) "PuppetTheatre$Chart" "transitions" "[LPuppetTheatre$Transition;") ∈ lw_all := pt_all (List.mem_of_getElem? (i := 225) (by decide +kernel)) (by decide +kernel)
theorem kw_227 : (Jvm.Cond.fieldLink "PuppetTheatre$Play" (106 : Nat) "PuppetTheatre$Chart" "transitions" "[LPuppetTheatre$Transition;") ∈ lw_all := pt_all (List.mem_of_getElem? (i := 227) (by decide +kernel)) (by decide +kernel)
theorem kw_228 : (Jvm.Cond.fieldLink "PuppetTheatre$Chart" (23 : Nat) "PuppetTheatre$Chart" "causedBy" "[I") ∈ lw_all := pt_all (List.mem_of_getElem? (i := 228) (by decide +kernel)) (by decide +kernel)
theorem kw_229 : (Jvm.Cond.fieldLink "PuppetTheatre$Play" (149 : Nat) "PuppetTheatre$Chart" "causedBy" "[I") ∈ lw_all := pt_all (List.mem_of_getElem? (i := 229) (by decide +kernel)) (by decide +kernel)
theorem kw_230 : (Jvm.Cond.fieldLink "PuppetTheatre$Chart" (27 : Nat) "PuppetTheatre$Chart" "stateCount" "I") ∈ lw_all := pt_all (List.mem_of_getElem? (i := 230) (by decide +kernel)) (by decide +kernel)
theorem kw_232 : (Jvm.Cond.fieldLink "PuppetTheatre$Play" (86 : Nat) "PuppetTheatre$Chart" "stateCount" "I") ∈ lw_all := pt_all (List.mem_of_getElem? (i := 232) (by decide +kernel)) (by decide +kernel)
theorem kw_233 : (Jvm.Cond.fieldLink "PuppetTheatre$Chart" (64 : Nat) "PuppetTheatre$Chart" "transitionCount" "I") ∈ lw_all := pt_all (List.mem_of_getElem? (i := 233) (by decide +kernel)) (by decide +kernel)
theorem kw_235 : (Jvm.Cond.fieldLink "PuppetTheatre$Play" (155 : Nat) "PuppetTheatre$Chart" "transitionCount" "I") ∈ lw_all := pt_all (List.mem_of_getElem? (i := 235) (by decide +kernel)) (by decide +kernel)
theorem kw_236 : (Jvm.Cond.fieldLink "PuppetTheatre$Chart" (35 : Nat) "PuppetTheatre$Chart" "leaves" "I") ∈ lw_all := pt_all (List.mem_of_getElem? (i := 236) (by decide +kernel)) (by decide +kernel)
theorem kw_237 : (Jvm.Cond.fieldLink "PuppetTheatre$Play" (178 : Nat) "PuppetTheatre$Chart" "leaves" "I") ∈ lw_all := pt_all (List.mem_of_getElem? (i := 237) (by decide +kernel)) (by decide +kernel)
theorem kw_238 : (Jvm.Cond.fieldLink "PuppetTheatre$Chart" (61 : Nat) "PuppetTheatre$Chart" "ends" "I") ∈ lw_all := pt_all (List.mem_of_getElem? (i := 238) (by decide +kernel)) (by decide +kernel)
theorem kw_239 : (Jvm.Cond.fieldLink "PuppetTheatre$Play" (59 : Nat) "PuppetTheatre$Chart" "ends" "I") ∈ lw_all := pt_all (List.mem_of_getElem? (i := 239) (by decide +kernel)) (by decide +kernel)
theorem kw_267 : (Jvm.Cond.fieldLink "PuppetTheatre$Situation" (9 : Nat) "PuppetTheatre$Situation" "ages" "[I") ∈ lw_all := pt_all (List.mem_of_getElem? (i := 267) (by decide +kernel)) (by decide +kernel)
theorem kw_268 : (Jvm.Cond.fieldLink "PuppetTheatre$Play" (93 : Nat) "PuppetTheatre$Situation" "ages" "[I") ∈ lw_all := pt_all (List.mem_of_getElem? (i := 268) (by decide +kernel)) (by decide +kernel)
theorem kw_270 : (Jvm.Cond.fieldLink "PuppetTheatre$Situation" (15 : Nat) "PuppetTheatre$Situation" "records" "[I") ∈ lw_all := pt_all (List.mem_of_getElem? (i := 270) (by decide +kernel)) (by decide +kernel)
theorem kw_271 : (Jvm.Cond.fieldLink "PuppetTheatre$Play" (210 : Nat) "PuppetTheatre$Situation" "records" "[I") ∈ lw_all := pt_all (List.mem_of_getElem? (i := 271) (by decide +kernel)) (by decide +kernel)
theorem kw_273 : (Jvm.Cond.fieldLink "PuppetTheatre$Situation" (18 : Nat) "PuppetTheatre$Situation" "variables" "[I") ∈ lw_all := pt_all (List.mem_of_getElem? (i := 273) (by decide +kernel)) (by decide +kernel)
theorem kw_274 : (Jvm.Cond.fieldLink "PuppetTheatre$Play" (165 : Nat) "PuppetTheatre$Situation" "variables" "[I") ∈ lw_all := pt_all (List.mem_of_getElem? (i := 274) (by decide +kernel)) (by decide +kernel)
theorem kw_276 : (Jvm.Cond.fieldLink "PuppetTheatre$Situation" (21 : Nat) "PuppetTheatre$Situation" "active" "I") ∈ lw_all := pt_all (List.mem_of_getElem? (i := 276) (by decide +kernel)) (by decide +kernel)
theorem kw_278 : (Jvm.Cond.fieldLink "PuppetTheatre$Play" (62 : Nat) "PuppetTheatre$Situation" "active" "I") ∈ lw_all := pt_all (List.mem_of_getElem? (i := 278) (by decide +kernel)) (by decide +kernel)
theorem kw_289 : (Jvm.Cond.fieldLink "PuppetTheatre$Play" (28 : Nat) "PuppetTheatre$Play" "chart" "LPuppetTheatre$Chart;") ∈ lw_all := pt_all (List.mem_of_getElem? (i := 289) (by decide +kernel)) (by decide +kernel)
theorem kw_290 : (Jvm.Cond.fieldLink "PuppetTheatre$Play" (12 : Nat) "PuppetTheatre$Play" "situation" "LPuppetTheatre$Situation;") ∈ lw_all := pt_all (List.mem_of_getElem? (i := 290) (by decide +kernel)) (by decide +kernel)
theorem kw_293 : (Jvm.Cond.fieldLink "PuppetTheatre$Play" (18 : Nat) "PuppetTheatre$Play" "fired" "[I") ∈ lw_all := pt_all (List.mem_of_getElem? (i := 293) (by decide +kernel)) (by decide +kernel)
theorem kw_296 : (Jvm.Cond.fieldLink "PuppetTheatre$Play" (65 : Nat) "PuppetTheatre$Play" "firedLast" "I") ∈ lw_all := pt_all (List.mem_of_getElem? (i := 296) (by decide +kernel)) (by decide +kernel)
theorem kw_297 : (Jvm.Cond.fieldLink "PuppetTheatre$Play" (35 : Nat) "PuppetTheatre$Play" "clock" "I") ∈ lw_all := pt_all (List.mem_of_getElem? (i := 297) (by decide +kernel)) (by decide +kernel)
theorem kw_299 : (Jvm.Cond.fieldLink "PuppetTheatre$Play" (39 : Nat) "PuppetTheatre$Play" "lost" "I") ∈ lw_all := pt_all (List.mem_of_getElem? (i := 299) (by decide +kernel)) (by decide +kernel)
theorem kw_301 : (Jvm.Cond.fieldLink "PuppetTheatre$Play" (42 : Nat) "PuppetTheatre$Play" "restless" "I") ∈ lw_all := pt_all (List.mem_of_getElem? (i := 301) (by decide +kernel)) (by decide +kernel)
theorem kw_303 : (Jvm.Cond.fieldLink "PuppetTheatre$Play" (22 : Nat) "PuppetTheatre$Play" "queue" "[I") ∈ lw_all := pt_all (List.mem_of_getElem? (i := 303) (by decide +kernel)) (by decide +kernel)
theorem kw_304 : (Jvm.Cond.fieldLink "PuppetTheatre$Play" (45 : Nat) "PuppetTheatre$Play" "queued" "I") ∈ lw_all := pt_all (List.mem_of_getElem? (i := 304) (by decide +kernel)) (by decide +kernel)
theorem kw_305 : (Jvm.Cond.fieldLink "PuppetTheatre$Play" (25 : Nat) "PuppetTheatre$Play" "taken" "[I") ∈ lw_all := pt_all (List.mem_of_getElem? (i := 305) (by decide +kernel)) (by decide +kernel)
theorem kw_306 : (Jvm.Cond.fieldLink "PuppetTheatre$Play" (103 : Nat) "PuppetTheatre$Play" "takenCount" "I") ∈ lw_all := pt_all (List.mem_of_getElem? (i := 306) (by decide +kernel)) (by decide +kernel)
theorem kw_407 : (Jvm.Cond.instanceMethod ({ cls := "PuppetTheatre$Play", name := "isAtEnd", desc := "()Z" } : Jvm.MethodName)) ∈ lw_all := pt_all (List.mem_of_getElem? (i := 407) (by decide +kernel)) (by decide +kernel)
theorem kw_408 : (Jvm.Cond.selects "PuppetTheatre$Play" ({ cls := "PuppetTheatre$Play", name := "isAtEnd", desc := "()Z" } : Jvm.MethodName) ({ cls := "PuppetTheatre$Play", name := "isAtEnd", desc := "()Z" } : Jvm.MethodName)) ∈ lw_all := pt_all (List.mem_of_getElem? (i := 408) (by decide +kernel)) (by decide +kernel)
theorem kw_409 : (Jvm.Cond.code ({ cls := "PuppetTheatre$Play", name := "isAtEnd", desc := "()Z" } : Jvm.MethodName) prog_5_method_3_code (1 : Nat) (Option.some Jvm.ClassFile.FieldType.boolean)) ∈ lw_all := pt_all (List.mem_of_getElem? (i := 409) (by decide +kernel)) (by decide +kernel)
theorem kw_430 : (Jvm.Cond.methodLink "PuppetTheatre" (52 : Nat) ({ cls := "PuppetTheatre", name := "isWithin", desc := "(III)Z" } : Jvm.MethodName)) ∈ lw_all := pt_all (List.mem_of_getElem? (i := 430) (by decide +kernel)) (by decide +kernel)
theorem kw_431 : (Jvm.Cond.static ({ cls := "PuppetTheatre", name := "isWithin", desc := "(III)Z" } : Jvm.MethodName)) ∈ lw_all := pt_all (List.mem_of_getElem? (i := 431) (by decide +kernel)) (by decide +kernel)
theorem kw_432 : (Jvm.Cond.code ({ cls := "PuppetTheatre", name := "isWithin", desc := "(III)Z" } : Jvm.MethodName) prog_1_method_47_code (3 : Nat) (Option.some Jvm.ClassFile.FieldType.boolean)) ∈ lw_all := pt_all (List.mem_of_getElem? (i := 432) (by decide +kernel)) (by decide +kernel)
theorem kw_442 : (Jvm.Cond.static ({ cls := "java/lang/Integer", name := "bitCount", desc := "(I)I" } : Jvm.MethodName)) ∈ lw_all := pt_all (List.mem_of_getElem? (i := 442) (by decide +kernel)) (by decide +kernel)
theorem kw_443 : (Jvm.Cond.code ({ cls := "java/lang/Integer", name := "bitCount", desc := "(I)I" } : Jvm.MethodName) prog_22_method_49_code (1 : Nat) (Option.some Jvm.ClassFile.FieldType.int)) ∈ lw_all := pt_all (List.mem_of_getElem? (i := 443) (by decide +kernel)) (by decide +kernel)
theorem kw_444 : (Jvm.Cond.constant "java/lang/Integer" (265 : Nat) (1431655765 : Int32)) ∈ lw_all := pt_all (List.mem_of_getElem? (i := 444) (by decide +kernel)) (by decide +kernel)
theorem kw_445 : (Jvm.Cond.constant "java/lang/Integer" (266 : Nat) (858993459 : Int32)) ∈ lw_all := pt_all (List.mem_of_getElem? (i := 445) (by decide +kernel)) (by decide +kernel)
theorem kw_446 : (Jvm.Cond.constant "java/lang/Integer" (267 : Nat) (252645135 : Int32)) ∈ lw_all := pt_all (List.mem_of_getElem? (i := 446) (by decide +kernel)) (by decide +kernel)
theorem kw_448 : (Jvm.Cond.static ({ cls := "PuppetTheatre", name := "has", desc := "(II)Z" } : Jvm.MethodName)) ∈ lw_all := pt_all (List.mem_of_getElem? (i := 448) (by decide +kernel)) (by decide +kernel)
theorem kw_449 : (Jvm.Cond.code ({ cls := "PuppetTheatre", name := "has", desc := "(II)Z" } : Jvm.MethodName) prog_1_method_49_code (2 : Nat) (Option.some Jvm.ClassFile.FieldType.boolean)) ∈ lw_all := pt_all (List.mem_of_getElem? (i := 449) (by decide +kernel)) (by decide +kernel)
theorem kw_471 : (Jvm.Cond.instanceMethod ({ cls := "PuppetTheatre$Chart", name := "endedAmong", desc := "(I)I" } : Jvm.MethodName)) ∈ lw_all := pt_all (List.mem_of_getElem? (i := 471) (by decide +kernel)) (by decide +kernel)
theorem kw_472 : (Jvm.Cond.selects "PuppetTheatre$Chart" ({ cls := "PuppetTheatre$Chart", name := "endedAmong", desc := "(I)I" } : Jvm.MethodName) ({ cls := "PuppetTheatre$Chart", name := "endedAmong", desc := "(I)I" } : Jvm.MethodName)) ∈ lw_all := pt_all (List.mem_of_getElem? (i := 472) (by decide +kernel)) (by decide +kernel)
theorem kw_473 : (Jvm.Cond.code ({ cls := "PuppetTheatre$Chart", name := "endedAmong", desc := "(I)I" } : Jvm.MethodName) prog_3_method_9_code (7 : Nat) (Option.some Jvm.ClassFile.FieldType.int)) ∈ lw_all := pt_all (List.mem_of_getElem? (i := 473) (by decide +kernel)) (by decide +kernel)
theorem kw_565 : (Jvm.Cond.instanceMethod ({ cls := "PuppetTheatre$State", name := "isMark", desc := "()Z" } : Jvm.MethodName)) ∈ lw_all := pt_all (List.mem_of_getElem? (i := 565) (by decide +kernel)) (by decide +kernel)
theorem kw_566 : (Jvm.Cond.selects "PuppetTheatre$State" ({ cls := "PuppetTheatre$State", name := "isMark", desc := "()Z" } : Jvm.MethodName) ({ cls := "PuppetTheatre$State", name := "isMark", desc := "()Z" } : Jvm.MethodName)) ∈ lw_all := pt_all (List.mem_of_getElem? (i := 566) (by decide +kernel)) (by decide +kernel)
theorem kw_567 : (Jvm.Cond.code ({ cls := "PuppetTheatre$State", name := "isMark", desc := "()Z" } : Jvm.MethodName) prog_7_method_2_code (1 : Nat) (Option.some Jvm.ClassFile.FieldType.boolean)) ∈ lw_all := pt_all (List.mem_of_getElem? (i := 567) (by decide +kernel)) (by decide +kernel)
theorem kw_613 : (Jvm.Cond.code ({ cls := "PuppetTheatre$State", name := "isHolder", desc := "()Z" } : Jvm.MethodName) prog_7_method_3_code (1 : Nat) (Option.some Jvm.ClassFile.FieldType.boolean)) ∈ lw_all := pt_all (List.mem_of_getElem? (i := 613) (by decide +kernel)) (by decide +kernel)
theorem kw_617 : (Jvm.Cond.code ({ cls := "PuppetTheatre$Chart", name := "putState", desc := "(II)I" } : Jvm.MethodName) prog_3_method_2_code (6 : Nat) (Option.some Jvm.ClassFile.FieldType.int)) ∈ lw_all := pt_all (List.mem_of_getElem? (i := 617) (by decide +kernel)) (by decide +kernel)
theorem kw_618 : (Jvm.Cond.methodLinkNest "PuppetTheatre$Chart" (49 : Nat) ({ cls := "PuppetTheatre", name := "has", desc := "(II)Z" } : Jvm.MethodName) "PuppetTheatre") ∈ lw_all := pt_all (List.mem_of_getElem? (i := 618) (by decide +kernel)) (by decide +kernel)
theorem kw_619 : (Jvm.Cond.methodLink "PuppetTheatre$Chart" (53 : Nat) ({ cls := "PuppetTheatre$State", name := "isMark", desc := "()Z" } : Jvm.MethodName)) ∈ lw_all := pt_all (List.mem_of_getElem? (i := 619) (by decide +kernel)) (by decide +kernel)
theorem kw_620 : (Jvm.Cond.methodLink "PuppetTheatre$Chart" (57 : Nat) ({ cls := "PuppetTheatre$State", name := "putPart", desc := "(I)V" } : Jvm.MethodName)) ∈ lw_all := pt_all (List.mem_of_getElem? (i := 620) (by decide +kernel)) (by decide +kernel)
theorem kw_621 : (Jvm.Cond.instanceMethod ({ cls := "PuppetTheatre$State", name := "putPart", desc := "(I)V" } : Jvm.MethodName)) ∈ lw_all := pt_all (List.mem_of_getElem? (i := 621) (by decide +kernel)) (by decide +kernel)
theorem kw_622 : (Jvm.Cond.selects "PuppetTheatre$State" ({ cls := "PuppetTheatre$State", name := "putPart", desc := "(I)V" } : Jvm.MethodName) ({ cls := "PuppetTheatre$State", name := "putPart", desc := "(I)V" } : Jvm.MethodName)) ∈ lw_all := pt_all (List.mem_of_getElem? (i := 622) (by decide +kernel)) (by decide +kernel)
theorem kw_623 : (Jvm.Cond.code ({ cls := "PuppetTheatre$State", name := "putPart", desc := "(I)V" } : Jvm.MethodName) prog_7_method_5_code (2 : Nat) (Option.none : Option Jvm.ClassFile.FieldType)) ∈ lw_all := pt_all (List.mem_of_getElem? (i := 623) (by decide +kernel)) (by decide +kernel)
theorem kw_624 : (Jvm.Cond.methodLink "PuppetTheatre$State" (41 : Nat) ({ cls := "PuppetTheatre$State", name := "putFirst", desc := "(I)V" } : Jvm.MethodName)) ∈ lw_all := pt_all (List.mem_of_getElem? (i := 624) (by decide +kernel)) (by decide +kernel)
theorem kw_625 : (Jvm.Cond.instanceMethod ({ cls := "PuppetTheatre$State", name := "putFirst", desc := "(I)V" } : Jvm.MethodName)) ∈ lw_all := pt_all (List.mem_of_getElem? (i := 625) (by decide +kernel)) (by decide +kernel)
theorem kw_626 : (Jvm.Cond.selects "PuppetTheatre$State" ({ cls := "PuppetTheatre$State", name := "putFirst", desc := "(I)V" } : Jvm.MethodName) ({ cls := "PuppetTheatre$State", name := "putFirst", desc := "(I)V" } : Jvm.MethodName)) ∈ lw_all := pt_all (List.mem_of_getElem? (i := 626) (by decide +kernel)) (by decide +kernel)
theorem kw_627 : (Jvm.Cond.code ({ cls := "PuppetTheatre$State", name := "putFirst", desc := "(I)V" } : Jvm.MethodName) prog_7_method_4_code (2 : Nat) (Option.none : Option Jvm.ClassFile.FieldType)) ∈ lw_all := pt_all (List.mem_of_getElem? (i := 627) (by decide +kernel)) (by decide +kernel)
theorem kw_628 : (Jvm.Cond.methodLinkNest "PuppetTheatre$State" (31 : Nat) ({ cls := "PuppetTheatre", name := "setOf", desc := "(I)I" } : Jvm.MethodName) "PuppetTheatre") ∈ lw_all := pt_all (List.mem_of_getElem? (i := 628) (by decide +kernel)) (by decide +kernel)
theorem kw_653 : (Jvm.Cond.code ({ cls := "PuppetTheatre", name := "isNumber", desc := "(I)Z" } : Jvm.MethodName) prog_1_method_46_code (1 : Nat) (Option.some Jvm.ClassFile.FieldType.boolean)) ∈ lw_all := pt_all (List.mem_of_getElem? (i := 653) (by decide +kernel)) (by decide +kernel)
theorem kw_657 : (Jvm.Cond.code ({ cls := "PuppetTheatre$Action", name := "become", desc := "(III)I" } : Jvm.MethodName) prog_2_method_2_code (5 : Nat) (Option.some Jvm.ClassFile.FieldType.int)) ∈ lw_all := pt_all (List.mem_of_getElem? (i := 657) (by decide +kernel)) (by decide +kernel)
theorem kw_671 : (Jvm.Cond.code ({ cls := "PuppetTheatre$Chart", name := "putTransition", desc := "(IIII)I" } : Jvm.MethodName) prog_3_method_3_code (7 : Nat) (Option.some Jvm.ClassFile.FieldType.int)) ∈ lw_all := pt_all (List.mem_of_getElem? (i := 671) (by decide +kernel)) (by decide +kernel)
theorem kw_672 : (Jvm.Cond.methodLink "PuppetTheatre$Chart" (79 : Nat) ({ cls := "PuppetTheatre$Chart", name := "scopeOf", desc := "(II)I" } : Jvm.MethodName)) ∈ lw_all := pt_all (List.mem_of_getElem? (i := 672) (by decide +kernel)) (by decide +kernel)
theorem kw_674 : (Jvm.Cond.instanceMethod ({ cls := "PuppetTheatre$Chart", name := "scopeOf", desc := "(II)I" } : Jvm.MethodName)) ∈ lw_all := pt_all (List.mem_of_getElem? (i := 674) (by decide +kernel)) (by decide +kernel)
theorem kw_675 : (Jvm.Cond.code ({ cls := "PuppetTheatre$Chart", name := "scopeOf", desc := "(II)I" } : Jvm.MethodName) prog_3_method_5_code (5 : Nat) (Option.some Jvm.ClassFile.FieldType.int)) ∈ lw_all := pt_all (List.mem_of_getElem? (i := 675) (by decide +kernel)) (by decide +kernel)
theorem kw_676 : (Jvm.Cond.methodLink "PuppetTheatre$Chart" (89 : Nat) ({ cls := "PuppetTheatre$Chart", name := "causeOf", desc := "(II)I" } : Jvm.MethodName)) ∈ lw_all := pt_all (List.mem_of_getElem? (i := 676) (by decide +kernel)) (by decide +kernel)
theorem kw_677 : (Jvm.Cond.static ({ cls := "PuppetTheatre$Chart", name := "causeOf", desc := "(II)I" } : Jvm.MethodName)) ∈ lw_all := pt_all (List.mem_of_getElem? (i := 677) (by decide +kernel)) (by decide +kernel)
theorem kw_678 : (Jvm.Cond.code ({ cls := "PuppetTheatre$Chart", name := "causeOf", desc := "(II)I" } : Jvm.MethodName) prog_3_method_4_code (2 : Nat) (Option.some Jvm.ClassFile.FieldType.int)) ∈ lw_all := pt_all (List.mem_of_getElem? (i := 678) (by decide +kernel)) (by decide +kernel)
theorem kw_706 : (Jvm.Cond.code ({ cls := "PuppetTheatre$Play", name := "reset", desc := "()V" } : Jvm.MethodName) prog_5_method_2_code (2 : Nat) (Option.none : Option Jvm.ClassFile.FieldType)) ∈ lw_all := pt_all (List.mem_of_getElem? (i := 706) (by decide +kernel)) (by decide +kernel)
theorem kw_707 : (Jvm.Cond.methodLink "PuppetTheatre$Play" (32 : Nat) ({ cls := "PuppetTheatre$Situation", name := "clear", desc := "()V" } : Jvm.MethodName)) ∈ lw_all := pt_all (List.mem_of_getElem? (i := 707) (by decide +kernel)) (by decide +kernel)
theorem kw_708 : (Jvm.Cond.instanceMethod ({ cls := "PuppetTheatre$Situation", name := "clear", desc := "()V" } : Jvm.MethodName)) ∈ lw_all := pt_all (List.mem_of_getElem? (i := 708) (by decide +kernel)) (by decide +kernel)
theorem kw_709 : (Jvm.Cond.selects "PuppetTheatre$Situation" ({ cls := "PuppetTheatre$Situation", name := "clear", desc := "()V" } : Jvm.MethodName) ({ cls := "PuppetTheatre$Situation", name := "clear", desc := "()V" } : Jvm.MethodName)) ∈ lw_all := pt_all (List.mem_of_getElem? (i := 709) (by decide +kernel)) (by decide +kernel)
theorem kw_710 : (Jvm.Cond.code ({ cls := "PuppetTheatre$Situation", name := "clear", desc := "()V" } : Jvm.MethodName) prog_6_method_3_code (2 : Nat) (Option.none : Option Jvm.ClassFile.FieldType)) ∈ lw_all := pt_all (List.mem_of_getElem? (i := 710) (by decide +kernel)) (by decide +kernel)
theorem kw_711 : (Jvm.Cond.methodLink "PuppetTheatre$Situation" (25 : Nat) ({ cls := "PuppetTheatre$Situation", name := "deactivate", desc := "()V" } : Jvm.MethodName)) ∈ lw_all := pt_all (List.mem_of_getElem? (i := 711) (by decide +kernel)) (by decide +kernel)
theorem kw_712 : (Jvm.Cond.instanceMethod ({ cls := "PuppetTheatre$Situation", name := "deactivate", desc := "()V" } : Jvm.MethodName)) ∈ lw_all := pt_all (List.mem_of_getElem? (i := 712) (by decide +kernel)) (by decide +kernel)
theorem kw_713 : (Jvm.Cond.selects "PuppetTheatre$Situation" ({ cls := "PuppetTheatre$Situation", name := "deactivate", desc := "()V" } : Jvm.MethodName) ({ cls := "PuppetTheatre$Situation", name := "deactivate", desc := "()V" } : Jvm.MethodName)) ∈ lw_all := pt_all (List.mem_of_getElem? (i := 713) (by decide +kernel)) (by decide +kernel)
theorem kw_714 : (Jvm.Cond.code ({ cls := "PuppetTheatre$Situation", name := "deactivate", desc := "()V" } : Jvm.MethodName) prog_6_method_2_code (2 : Nat) (Option.none : Option Jvm.ClassFile.FieldType)) ∈ lw_all := pt_all (List.mem_of_getElem? (i := 714) (by decide +kernel)) (by decide +kernel)
theorem kw_717 : (Jvm.Cond.instanceMethod ({ cls := "PuppetTheatre$Chart", name := "filled", desc := "(I)I" } : Jvm.MethodName)) ∈ lw_all := pt_all (List.mem_of_getElem? (i := 717) (by decide +kernel)) (by decide +kernel)
theorem kw_718 : (Jvm.Cond.selects "PuppetTheatre$Chart" ({ cls := "PuppetTheatre$Chart", name := "filled", desc := "(I)I" } : Jvm.MethodName) ({ cls := "PuppetTheatre$Chart", name := "filled", desc := "(I)I" } : Jvm.MethodName)) ∈ lw_all := pt_all (List.mem_of_getElem? (i := 718) (by decide +kernel)) (by decide +kernel)
theorem kw_719 : (Jvm.Cond.code ({ cls := "PuppetTheatre$Chart", name := "filled", desc := "(I)I" } : Jvm.MethodName) prog_3_method_6_code (4 : Nat) (Option.some Jvm.ClassFile.FieldType.int)) ∈ lw_all := pt_all (List.mem_of_getElem? (i := 719) (by decide +kernel)) (by decide +kernel)
theorem kw_721 : (Jvm.Cond.instanceMethod ({ cls := "PuppetTheatre$Play", name := "enter", desc := "(I)V" } : Jvm.MethodName)) ∈ lw_all := pt_all (List.mem_of_getElem? (i := 721) (by decide +kernel)) (by decide +kernel)
theorem kw_722 : (Jvm.Cond.selects "PuppetTheatre$Play" ({ cls := "PuppetTheatre$Play", name := "enter", desc := "(I)V" } : Jvm.MethodName) ({ cls := "PuppetTheatre$Play", name := "enter", desc := "(I)V" } : Jvm.MethodName)) ∈ lw_all := pt_all (List.mem_of_getElem? (i := 722) (by decide +kernel)) (by decide +kernel)
theorem kw_723 : (Jvm.Cond.code ({ cls := "PuppetTheatre$Play", name := "enter", desc := "(I)V" } : Jvm.MethodName) prog_5_method_19_code (3 : Nat) (Option.none : Option Jvm.ClassFile.FieldType)) ∈ lw_all := pt_all (List.mem_of_getElem? (i := 723) (by decide +kernel)) (by decide +kernel)
theorem kw_724 : (Jvm.Cond.methodLinkNest "PuppetTheatre$Play" (89 : Nat) ({ cls := "PuppetTheatre", name := "has", desc := "(II)Z" } : Jvm.MethodName) "PuppetTheatre") ∈ lw_all := pt_all (List.mem_of_getElem? (i := 724) (by decide +kernel)) (by decide +kernel)
theorem kw_725 : (Jvm.Cond.methodLinkNest "PuppetTheatre$Play" (143 : Nat) ({ cls := "PuppetTheatre", name := "setOf", desc := "(I)I" } : Jvm.MethodName) "PuppetTheatre") ∈ lw_all := pt_all (List.mem_of_getElem? (i := 725) (by decide +kernel)) (by decide +kernel)
theorem kw_726 : (Jvm.Cond.methodLink "PuppetTheatre$Play" (126 : Nat) ({ cls := "PuppetTheatre$Play", name := "act", desc := "(LPuppetTheatre$Action;)V" } : Jvm.MethodName)) ∈ lw_all := pt_all (List.mem_of_getElem? (i := 726) (by decide +kernel)) (by decide +kernel)
theorem kw_728 : (Jvm.Cond.instanceMethod ({ cls := "PuppetTheatre$Play", name := "act", desc := "(LPuppetTheatre$Action;)V" } : Jvm.MethodName)) ∈ lw_all := pt_all (List.mem_of_getElem? (i := 728) (by decide +kernel)) (by decide +kernel)
theorem kw_729 : (Jvm.Cond.code ({ cls := "PuppetTheatre$Play", name := "act", desc := "(LPuppetTheatre$Action;)V" } : Jvm.MethodName) prog_5_method_21_code (2 : Nat) (Option.none : Option Jvm.ClassFile.FieldType)) ∈ lw_all := pt_all (List.mem_of_getElem? (i := 729) (by decide +kernel)) (by decide +kernel)
theorem kw_730 : (Jvm.Cond.methodLink "PuppetTheatre$Play" (231 : Nat) ({ cls := "PuppetTheatre$Situation", name := "add", desc := "(II)V" } : Jvm.MethodName)) ∈ lw_all := pt_all (List.mem_of_getElem? (i := 730) (by decide +kernel)) (by decide +kernel)
theorem kw_731 : (Jvm.Cond.instanceMethod ({ cls := "PuppetTheatre$Situation", name := "add", desc := "(II)V" } : Jvm.MethodName)) ∈ lw_all := pt_all (List.mem_of_getElem? (i := 731) (by decide +kernel)) (by decide +kernel)
theorem kw_732 : (Jvm.Cond.selects "PuppetTheatre$Situation" ({ cls := "PuppetTheatre$Situation", name := "add", desc := "(II)V" } : Jvm.MethodName) ({ cls := "PuppetTheatre$Situation", name := "add", desc := "(II)V" } : Jvm.MethodName)) ∈ lw_all := pt_all (List.mem_of_getElem? (i := 732) (by decide +kernel)) (by decide +kernel)
theorem kw_733 : (Jvm.Cond.code ({ cls := "PuppetTheatre$Situation", name := "add", desc := "(II)V" } : Jvm.MethodName) prog_6_method_4_code (4 : Nat) (Option.none : Option Jvm.ClassFile.FieldType)) ∈ lw_all := pt_all (List.mem_of_getElem? (i := 733) (by decide +kernel)) (by decide +kernel)
theorem kw_734 : (Jvm.Cond.methodLink "PuppetTheatre$Situation" (28 : Nat) ({ cls := "java/lang/Math", name := "min", desc := "(II)I" } : Jvm.MethodName)) ∈ lw_all := pt_all (List.mem_of_getElem? (i := 734) (by decide +kernel)) (by decide +kernel)
theorem kw_735 : (Jvm.Cond.static ({ cls := "java/lang/Math", name := "min", desc := "(II)I" } : Jvm.MethodName)) ∈ lw_all := pt_all (List.mem_of_getElem? (i := 735) (by decide +kernel)) (by decide +kernel)
theorem kw_736 : (Jvm.Cond.code ({ cls := "java/lang/Math", name := "min", desc := "(II)I" } : Jvm.MethodName) prog_25_method_69_code (2 : Nat) (Option.some Jvm.ClassFile.FieldType.int)) ∈ lw_all := pt_all (List.mem_of_getElem? (i := 736) (by decide +kernel)) (by decide +kernel)
theorem kw_737 : (Jvm.Cond.methodLink "PuppetTheatre$Situation" (34 : Nat) ({ cls := "java/lang/Math", name := "max", desc := "(II)I" } : Jvm.MethodName)) ∈ lw_all := pt_all (List.mem_of_getElem? (i := 737) (by decide +kernel)) (by decide +kernel)
theorem kw_738 : (Jvm.Cond.static ({ cls := "java/lang/Math", name := "max", desc := "(II)I" } : Jvm.MethodName)) ∈ lw_all := pt_all (List.mem_of_getElem? (i := 738) (by decide +kernel)) (by decide +kernel)
theorem kw_739 : (Jvm.Cond.code ({ cls := "java/lang/Math", name := "max", desc := "(II)I" } : Jvm.MethodName) prog_25_method_65_code (2 : Nat) (Option.some Jvm.ClassFile.FieldType.int)) ∈ lw_all := pt_all (List.mem_of_getElem? (i := 739) (by decide +kernel)) (by decide +kernel)
theorem kw_740 : (Jvm.Cond.methodLink "PuppetTheatre$Play" (235 : Nat) ({ cls := "PuppetTheatre$Play", name := "raise", desc := "(I)V" } : Jvm.MethodName)) ∈ lw_all := pt_all (List.mem_of_getElem? (i := 740) (by decide +kernel)) (by decide +kernel)
theorem kw_742 : (Jvm.Cond.instanceMethod ({ cls := "PuppetTheatre$Play", name := "raise", desc := "(I)V" } : Jvm.MethodName)) ∈ lw_all := pt_all (List.mem_of_getElem? (i := 742) (by decide +kernel)) (by decide +kernel)
theorem kw_743 : (Jvm.Cond.code ({ cls := "PuppetTheatre$Play", name := "raise", desc := "(I)V" } : Jvm.MethodName) prog_5_method_6_code (2 : Nat) (Option.none : Option Jvm.ClassFile.FieldType)) ∈ lw_all := pt_all (List.mem_of_getElem? (i := 743) (by decide +kernel)) (by decide +kernel)
theorem kw_747 : (Jvm.Cond.code ({ cls := "PuppetTheatre$Play", name := "proceed", desc := "(I)I" } : Jvm.MethodName) prog_5_method_4_code (7 : Nat) (Option.some Jvm.ClassFile.FieldType.int)) ∈ lw_all := pt_all (List.mem_of_getElem? (i := 747) (by decide +kernel)) (by decide +kernel)
theorem kw_748 : (Jvm.Cond.methodLink "PuppetTheatre$Play" (68 : Nat) ({ cls := "PuppetTheatre$Play", name := "isAtEnd", desc := "()Z" } : Jvm.MethodName)) ∈ lw_all := pt_all (List.mem_of_getElem? (i := 748) (by decide +kernel)) (by decide +kernel)
theorem kw_749 : (Jvm.Cond.methodLink "PuppetTheatre$Play" (72 : Nat) ({ cls := "PuppetTheatre$Play", name := "loseQueue", desc := "()V" } : Jvm.MethodName)) ∈ lw_all := pt_all (List.mem_of_getElem? (i := 749) (by decide +kernel)) (by decide +kernel)
theorem kw_751 : (Jvm.Cond.instanceMethod ({ cls := "PuppetTheatre$Play", name := "loseQueue", desc := "()V" } : Jvm.MethodName)) ∈ lw_all := pt_all (List.mem_of_getElem? (i := 751) (by decide +kernel)) (by decide +kernel)
theorem kw_752 : (Jvm.Cond.code ({ cls := "PuppetTheatre$Play", name := "loseQueue", desc := "()V" } : Jvm.MethodName) prog_5_method_7_code (1 : Nat) (Option.none : Option Jvm.ClassFile.FieldType)) ∈ lw_all := pt_all (List.mem_of_getElem? (i := 752) (by decide +kernel)) (by decide +kernel)
theorem kw_753 : (Jvm.Cond.methodLink "PuppetTheatre$Play" (75 : Nat) ({ cls := "PuppetTheatre$Play", name := "growOlder", desc := "()V" } : Jvm.MethodName)) ∈ lw_all := pt_all (List.mem_of_getElem? (i := 753) (by decide +kernel)) (by decide +kernel)
theorem kw_755 : (Jvm.Cond.instanceMethod ({ cls := "PuppetTheatre$Play", name := "growOlder", desc := "()V" } : Jvm.MethodName)) ∈ lw_all := pt_all (List.mem_of_getElem? (i := 755) (by decide +kernel)) (by decide +kernel)
theorem kw_756 : (Jvm.Cond.code ({ cls := "PuppetTheatre$Play", name := "growOlder", desc := "()V" } : Jvm.MethodName) prog_5_method_5_code (2 : Nat) (Option.none : Option Jvm.ClassFile.FieldType)) ∈ lw_all := pt_all (List.mem_of_getElem? (i := 756) (by decide +kernel)) (by decide +kernel)
theorem kw_757 : (Jvm.Cond.methodLink "PuppetTheatre$Play" (78 : Nat) ({ cls := "PuppetTheatre$Play", name := "step", desc := "(I)I" } : Jvm.MethodName)) ∈ lw_all := pt_all (List.mem_of_getElem? (i := 757) (by decide +kernel)) (by decide +kernel)
theorem kw_759 : (Jvm.Cond.instanceMethod ({ cls := "PuppetTheatre$Play", name := "step", desc := "(I)I" } : Jvm.MethodName)) ∈ lw_all := pt_all (List.mem_of_getElem? (i := 759) (by decide +kernel)) (by decide +kernel)
theorem kw_760 : (Jvm.Cond.code ({ cls := "PuppetTheatre$Play", name := "step", desc := "(I)I" } : Jvm.MethodName) prog_5_method_9_code (7 : Nat) (Option.some Jvm.ClassFile.FieldType.int)) ∈ lw_all := pt_all (List.mem_of_getElem? (i := 760) (by decide +kernel)) (by decide +kernel)
theorem kw_761 : (Jvm.Cond.methodLink "PuppetTheatre$Play" (96 : Nat) ({ cls := "PuppetTheatre$Play", name := "openBy", desc := "(I)I" } : Jvm.MethodName)) ∈ lw_all := pt_all (List.mem_of_getElem? (i := 761) (by decide +kernel)) (by decide +kernel)
theorem kw_762 : (Jvm.Cond.instanceMethod ({ cls := "PuppetTheatre$Play", name := "openBy", desc := "(I)I" } : Jvm.MethodName)) ∈ lw_all := pt_all (List.mem_of_getElem? (i := 762) (by decide +kernel)) (by decide +kernel)
theorem kw_763 : (Jvm.Cond.selects "PuppetTheatre$Play" ({ cls := "PuppetTheatre$Play", name := "openBy", desc := "(I)I" } : Jvm.MethodName) ({ cls := "PuppetTheatre$Play", name := "openBy", desc := "(I)I" } : Jvm.MethodName)) ∈ lw_all := pt_all (List.mem_of_getElem? (i := 763) (by decide +kernel)) (by decide +kernel)
theorem kw_764 : (Jvm.Cond.code ({ cls := "PuppetTheatre$Play", name := "openBy", desc := "(I)I" } : Jvm.MethodName) prog_5_method_10_code (6 : Nat) (Option.some Jvm.ClassFile.FieldType.int)) ∈ lw_all := pt_all (List.mem_of_getElem? (i := 764) (by decide +kernel)) (by decide +kernel)
theorem kw_765 : (Jvm.Cond.methodLink "PuppetTheatre$Play" (152 : Nat) ({ cls := "PuppetTheatre$Chart", name := "endedAmong", desc := "(I)I" } : Jvm.MethodName)) ∈ lw_all := pt_all (List.mem_of_getElem? (i := 765) (by decide +kernel)) (by decide +kernel)
theorem kw_766 : (Jvm.Cond.methodLink "PuppetTheatre$Play" (158 : Nat) ({ cls := "PuppetTheatre$Play", name := "isOpen", desc := "(LPuppetTheatre$Transition;I)Z" } : Jvm.MethodName)) ∈ lw_all := pt_all (List.mem_of_getElem? (i := 766) (by decide +kernel)) (by decide +kernel)
theorem kw_768 : (Jvm.Cond.instanceMethod ({ cls := "PuppetTheatre$Play", name := "isOpen", desc := "(LPuppetTheatre$Transition;I)Z" } : Jvm.MethodName)) ∈ lw_all := pt_all (List.mem_of_getElem? (i := 768) (by decide +kernel)) (by decide +kernel)
theorem kw_769 : (Jvm.Cond.code ({ cls := "PuppetTheatre$Play", name := "isOpen", desc := "(LPuppetTheatre$Transition;I)Z" } : Jvm.MethodName) prog_5_method_11_code (3 : Nat) (Option.some Jvm.ClassFile.FieldType.boolean)) ∈ lw_all := pt_all (List.mem_of_getElem? (i := 769) (by decide +kernel)) (by decide +kernel)
theorem kw_770 : (Jvm.Cond.methodLink "PuppetTheatre$Play" (168 : Nat) ({ cls := "PuppetTheatre$Transition", name := "isAllowed", desc := "([I)Z" } : Jvm.MethodName)) ∈ lw_all := pt_all (List.mem_of_getElem? (i := 770) (by decide +kernel)) (by decide +kernel)
theorem kw_771 : (Jvm.Cond.instanceMethod ({ cls := "PuppetTheatre$Transition", name := "isAllowed", desc := "([I)Z" } : Jvm.MethodName)) ∈ lw_all := pt_all (List.mem_of_getElem? (i := 771) (by decide +kernel)) (by decide +kernel)
theorem kw_772 : (Jvm.Cond.selects "PuppetTheatre$Transition" ({ cls := "PuppetTheatre$Transition", name := "isAllowed", desc := "([I)Z" } : Jvm.MethodName) ({ cls := "PuppetTheatre$Transition", name := "isAllowed", desc := "([I)Z" } : Jvm.MethodName)) ∈ lw_all := pt_all (List.mem_of_getElem? (i := 772) (by decide +kernel)) (by decide +kernel)
theorem kw_773 : (Jvm.Cond.code ({ cls := "PuppetTheatre$Transition", name := "isAllowed", desc := "([I)Z" } : Jvm.MethodName) prog_8_method_2_code (2 : Nat) (Option.some Jvm.ClassFile.FieldType.boolean)) ∈ lw_all := pt_all (List.mem_of_getElem? (i := 773) (by decide +kernel)) (by decide +kernel)
theorem kw_774 : (Jvm.Cond.methodLink "PuppetTheatre$Play" (99 : Nat) ({ cls := "PuppetTheatre$Play", name := "choose", desc := "(I)V" } : Jvm.MethodName)) ∈ lw_all := pt_all (List.mem_of_getElem? (i := 774) (by decide +kernel)) (by decide +kernel)
theorem kw_776 : (Jvm.Cond.instanceMethod ({ cls := "PuppetTheatre$Play", name := "choose", desc := "(I)V" } : Jvm.MethodName)) ∈ lw_all := pt_all (List.mem_of_getElem? (i := 776) (by decide +kernel)) (by decide +kernel)
theorem kw_777 : (Jvm.Cond.code ({ cls := "PuppetTheatre$Play", name := "choose", desc := "(I)V" } : Jvm.MethodName) prog_5_method_12_code (6 : Nat) (Option.none : Option Jvm.ClassFile.FieldType)) ∈ lw_all := pt_all (List.mem_of_getElem? (i := 777) (by decide +kernel)) (by decide +kernel)
theorem kw_778 : (Jvm.Cond.methodLink "PuppetTheatre$Play" (181 : Nat) ({ cls := "PuppetTheatre$Play", name := "nearestOpen", desc := "(II)I" } : Jvm.MethodName)) ∈ lw_all := pt_all (List.mem_of_getElem? (i := 778) (by decide +kernel)) (by decide +kernel)
theorem kw_780 : (Jvm.Cond.instanceMethod ({ cls := "PuppetTheatre$Play", name := "nearestOpen", desc := "(II)I" } : Jvm.MethodName)) ∈ lw_all := pt_all (List.mem_of_getElem? (i := 780) (by decide +kernel)) (by decide +kernel)
theorem kw_781 : (Jvm.Cond.code ({ cls := "PuppetTheatre$Play", name := "nearestOpen", desc := "(II)I" } : Jvm.MethodName) prog_5_method_13_code (5 : Nat) (Option.some Jvm.ClassFile.FieldType.int)) ∈ lw_all := pt_all (List.mem_of_getElem? (i := 781) (by decide +kernel)) (by decide +kernel)
theorem kw_782 : (Jvm.Cond.methodLink "PuppetTheatre$Play" (193 : Nat) ({ cls := "PuppetTheatre$Play", name := "smallestOf", desc := "(I)I" } : Jvm.MethodName)) ∈ lw_all := pt_all (List.mem_of_getElem? (i := 782) (by decide +kernel)) (by decide +kernel)
theorem kw_783 : (Jvm.Cond.static ({ cls := "PuppetTheatre$Play", name := "smallestOf", desc := "(I)I" } : Jvm.MethodName)) ∈ lw_all := pt_all (List.mem_of_getElem? (i := 783) (by decide +kernel)) (by decide +kernel)
theorem kw_784 : (Jvm.Cond.code ({ cls := "PuppetTheatre$Play", name := "smallestOf", desc := "(I)I" } : Jvm.MethodName) prog_5_method_14_code (1 : Nat) (Option.some Jvm.ClassFile.FieldType.int)) ∈ lw_all := pt_all (List.mem_of_getElem? (i := 784) (by decide +kernel)) (by decide +kernel)
theorem kw_785 : (Jvm.Cond.methodLink "PuppetTheatre$Play" (196 : Nat) ({ cls := "java/lang/Integer", name := "bitCount", desc := "(I)I" } : Jvm.MethodName)) ∈ lw_all := pt_all (List.mem_of_getElem? (i := 785) (by decide +kernel)) (by decide +kernel)
theorem kw_786 : (Jvm.Cond.methodLink "PuppetTheatre$Play" (184 : Nat) ({ cls := "PuppetTheatre$Play", name := "takeIfFree", desc := "(I)V" } : Jvm.MethodName)) ∈ lw_all := pt_all (List.mem_of_getElem? (i := 786) (by decide +kernel)) (by decide +kernel)
theorem kw_788 : (Jvm.Cond.instanceMethod ({ cls := "PuppetTheatre$Play", name := "takeIfFree", desc := "(I)V" } : Jvm.MethodName)) ∈ lw_all := pt_all (List.mem_of_getElem? (i := 788) (by decide +kernel)) (by decide +kernel)
theorem kw_789 : (Jvm.Cond.code ({ cls := "PuppetTheatre$Play", name := "takeIfFree", desc := "(I)V" } : Jvm.MethodName) prog_5_method_15_code (6 : Nat) (Option.none : Option Jvm.ClassFile.FieldType)) ∈ lw_all := pt_all (List.mem_of_getElem? (i := 789) (by decide +kernel)) (by decide +kernel)
theorem kw_790 : (Jvm.Cond.methodLink "PuppetTheatre$Play" (110 : Nat) ({ cls := "PuppetTheatre$Play", name := "leftBy", desc := "(LPuppetTheatre$Transition;)I" } : Jvm.MethodName)) ∈ lw_all := pt_all (List.mem_of_getElem? (i := 790) (by decide +kernel)) (by decide +kernel)
theorem kw_792 : (Jvm.Cond.instanceMethod ({ cls := "PuppetTheatre$Play", name := "leftBy", desc := "(LPuppetTheatre$Transition;)I" } : Jvm.MethodName)) ∈ lw_all := pt_all (List.mem_of_getElem? (i := 792) (by decide +kernel)) (by decide +kernel)
theorem kw_793 : (Jvm.Cond.code ({ cls := "PuppetTheatre$Play", name := "leftBy", desc := "(LPuppetTheatre$Transition;)I" } : Jvm.MethodName) prog_5_method_16_code (2 : Nat) (Option.some Jvm.ClassFile.FieldType.int)) ∈ lw_all := pt_all (List.mem_of_getElem? (i := 793) (by decide +kernel)) (by decide +kernel)
theorem kw_794 : (Jvm.Cond.methodLink "PuppetTheatre$Play" (114 : Nat) ({ cls := "PuppetTheatre$Play", name := "makeRecords", desc := "(I)V" } : Jvm.MethodName)) ∈ lw_all := pt_all (List.mem_of_getElem? (i := 794) (by decide +kernel)) (by decide +kernel)
theorem kw_796 : (Jvm.Cond.instanceMethod ({ cls := "PuppetTheatre$Play", name := "makeRecords", desc := "(I)V" } : Jvm.MethodName)) ∈ lw_all := pt_all (List.mem_of_getElem? (i := 796) (by decide +kernel)) (by decide +kernel)
theorem kw_797 : (Jvm.Cond.code ({ cls := "PuppetTheatre$Play", name := "makeRecords", desc := "(I)V" } : Jvm.MethodName) prog_5_method_17_code (6 : Nat) (Option.none : Option Jvm.ClassFile.FieldType)) ∈ lw_all := pt_all (List.mem_of_getElem? (i := 797) (by decide +kernel)) (by decide +kernel)
theorem kw_798 : (Jvm.Cond.methodLink "PuppetTheatre$Play" (201 : Nat) ({ cls := "PuppetTheatre$State", name := "isMark", desc := "()Z" } : Jvm.MethodName)) ∈ lw_all := pt_all (List.mem_of_getElem? (i := 798) (by decide +kernel)) (by decide +kernel)
theorem kw_799 : (Jvm.Cond.methodLink "PuppetTheatre$Play" (117 : Nat) ({ cls := "PuppetTheatre$Play", name := "leave", desc := "(I)V" } : Jvm.MethodName)) ∈ lw_all := pt_all (List.mem_of_getElem? (i := 799) (by decide +kernel)) (by decide +kernel)
theorem kw_801 : (Jvm.Cond.instanceMethod ({ cls := "PuppetTheatre$Play", name := "leave", desc := "(I)V" } : Jvm.MethodName)) ∈ lw_all := pt_all (List.mem_of_getElem? (i := 801) (by decide +kernel)) (by decide +kernel)
theorem kw_802 : (Jvm.Cond.code ({ cls := "PuppetTheatre$Play", name := "leave", desc := "(I)V" } : Jvm.MethodName) prog_5_method_18_code (3 : Nat) (Option.none : Option Jvm.ClassFile.FieldType)) ∈ lw_all := pt_all (List.mem_of_getElem? (i := 802) (by decide +kernel)) (by decide +kernel)
theorem kw_803 : (Jvm.Cond.methodLink "PuppetTheatre$Play" (133 : Nat) ({ cls := "PuppetTheatre$Play", name := "targetsOf", desc := "(LPuppetTheatre$Transition;)I" } : Jvm.MethodName)) ∈ lw_all := pt_all (List.mem_of_getElem? (i := 803) (by decide +kernel)) (by decide +kernel)
theorem kw_805 : (Jvm.Cond.instanceMethod ({ cls := "PuppetTheatre$Play", name := "targetsOf", desc := "(LPuppetTheatre$Transition;)I" } : Jvm.MethodName)) ∈ lw_all := pt_all (List.mem_of_getElem? (i := 805) (by decide +kernel)) (by decide +kernel)
theorem kw_806 : (Jvm.Cond.code ({ cls := "PuppetTheatre$Play", name := "targetsOf", desc := "(LPuppetTheatre$Transition;)I" } : Jvm.MethodName) prog_5_method_20_code (3 : Nat) (Option.some Jvm.ClassFile.FieldType.int)) ∈ lw_all := pt_all (List.mem_of_getElem? (i := 806) (by decide +kernel)) (by decide +kernel)
theorem kw_807 : (Jvm.Cond.methodLink "PuppetTheatre$Play" (139 : Nat) ({ cls := "PuppetTheatre$Chart", name := "enteredInto", desc := "(II)I" } : Jvm.MethodName)) ∈ lw_all := pt_all (List.mem_of_getElem? (i := 807) (by decide +kernel)) (by decide +kernel)
theorem kw_808 : (Jvm.Cond.instanceMethod ({ cls := "PuppetTheatre$Chart", name := "enteredInto", desc := "(II)I" } : Jvm.MethodName)) ∈ lw_all := pt_all (List.mem_of_getElem? (i := 808) (by decide +kernel)) (by decide +kernel)
theorem kw_809 : (Jvm.Cond.selects "PuppetTheatre$Chart" ({ cls := "PuppetTheatre$Chart", name := "enteredInto", desc := "(II)I" } : Jvm.MethodName) ({ cls := "PuppetTheatre$Chart", name := "enteredInto", desc := "(II)I" } : Jvm.MethodName)) ∈ lw_all := pt_all (List.mem_of_getElem? (i := 809) (by decide +kernel)) (by decide +kernel)
theorem kw_810 : (Jvm.Cond.code ({ cls := "PuppetTheatre$Chart", name := "enteredInto", desc := "(II)I" } : Jvm.MethodName) prog_3_method_7_code (6 : Nat) (Option.some Jvm.ClassFile.FieldType.int)) ∈ lw_all := pt_all (List.mem_of_getElem? (i := 810) (by decide +kernel)) (by decide +kernel)
theorem kw_811 : (Jvm.Cond.methodLink "PuppetTheatre$Chart" (95 : Nat) ({ cls := "PuppetTheatre$Chart", name := "partsAside", desc := "(II)I" } : Jvm.MethodName)) ∈ lw_all := pt_all (List.mem_of_getElem? (i := 811) (by decide +kernel)) (by decide +kernel)
theorem kw_813 : (Jvm.Cond.instanceMethod ({ cls := "PuppetTheatre$Chart", name := "partsAside", desc := "(II)I" } : Jvm.MethodName)) ∈ lw_all := pt_all (List.mem_of_getElem? (i := 813) (by decide +kernel)) (by decide +kernel)
theorem kw_814 : (Jvm.Cond.code ({ cls := "PuppetTheatre$Chart", name := "partsAside", desc := "(II)I" } : Jvm.MethodName) prog_3_method_8_code (5 : Nat) (Option.some Jvm.ClassFile.FieldType.int)) ∈ lw_all := pt_all (List.mem_of_getElem? (i := 814) (by decide +kernel)) (by decide +kernel)
theorem kw_815 : (Jvm.Cond.methodLink "PuppetTheatre$Chart" (98 : Nat) ({ cls := "PuppetTheatre$Chart", name := "filled", desc := "(I)I" } : Jvm.MethodName)) ∈ lw_all := pt_all (List.mem_of_getElem? (i := 815) (by decide +kernel)) (by decide +kernel)
theorem kw_816 : (Jvm.Cond.methodLink "PuppetTheatre$Play" (146 : Nat) ({ cls := "PuppetTheatre$Play", name := "enter", desc := "(I)V" } : Jvm.MethodName)) ∈ lw_all := pt_all (List.mem_of_getElem? (i := 816) (by decide +kernel)) (by decide +kernel)
theorem kw_817 : (Jvm.Cond.methodLink "PuppetTheatre$Play" (82 : Nat) ({ cls := "PuppetTheatre$Play", name := "nextEvent", desc := "()I" } : Jvm.MethodName)) ∈ lw_all := pt_all (List.mem_of_getElem? (i := 817) (by decide +kernel)) (by decide +kernel)
theorem kw_819 : (Jvm.Cond.instanceMethod ({ cls := "PuppetTheatre$Play", name := "nextEvent", desc := "()I" } : Jvm.MethodName)) ∈ lw_all := pt_all (List.mem_of_getElem? (i := 819) (by decide +kernel)) (by decide +kernel)
theorem kw_820 : (Jvm.Cond.code ({ cls := "PuppetTheatre$Play", name := "nextEvent", desc := "()I" } : Jvm.MethodName) prog_5_method_8_code (3 : Nat) (Option.some Jvm.ClassFile.FieldType.int)) ∈ lw_all := pt_all (List.mem_of_getElem? (i := 820) (by decide +kernel)) (by decide +kernel)
theorem kw_887 : (Jvm.Cond.code ({ cls := "PuppetTheatre$Situation", name := "copyFrom", desc := "(LPuppetTheatre$Situation;)V" } : Jvm.MethodName) prog_6_method_5_code (2 : Nat) (Option.none : Option Jvm.ClassFile.FieldType)) ∈ lw_all := pt_all (List.mem_of_getElem? (i := 887) (by decide +kernel)) (by decide +kernel)
theorem kw_888 : (Jvm.Cond.methodLink "PuppetTheatre$Situation" (37 : Nat) ({ cls := "java/lang/System", name := "arraycopy", desc := "(Ljava/lang/Object;ILjava/lang/Object;II)V" } : Jvm.MethodName)) ∈ lw_all := pt_all (List.mem_of_getElem? (i := 888) (by decide +kernel)) (by decide +kernel)
theorem kw_889 : (Jvm.Cond.static ({ cls := "java/lang/System", name := "arraycopy", desc := "(Ljava/lang/Object;ILjava/lang/Object;II)V" } : Jvm.MethodName)) ∈ lw_all := pt_all (List.mem_of_getElem? (i := 889) (by decide +kernel)) (by decide +kernel)
theorem kw_890 : (Jvm.Cond.native ({ cls := "java/lang/System", name := "arraycopy", desc := "(Ljava/lang/Object;ILjava/lang/Object;II)V" } : Jvm.MethodName)) ∈ lw_all := pt_all (List.mem_of_getElem? (i := 890) (by decide +kernel)) (by decide +kernel)
theorem kw_938 : (Jvm.Cond.code ({ cls := "PuppetTheatre$Situation", name := "isSameAs", desc := "(LPuppetTheatre$Situation;)Z" } : Jvm.MethodName) prog_6_method_6_code (3 : Nat) (Option.some Jvm.ClassFile.FieldType.boolean)) ∈ lw_all := pt_all (List.mem_of_getElem? (i := 938) (by decide +kernel)) (by decide +kernel)
end
section
-- decode rows
theorem dJ6_bitCount_0f7a4_0 : decode cJ6_bitCount_0f7a4 0 = .ok (.iload_n 0, 1) := by decide +kernel
theorem dJ6_bitCount_0f7a4_1 : decode cJ6_bitCount_0f7a4 1 = .ok (.iload_n 0, 1) := by decide +kernel
theorem dJ6_bitCount_0f7a4_2 : decode cJ6_bitCount_0f7a4 2 = .ok (.iconst 1, 1) := by decide +kernel
theorem dJ6_bitCount_0f7a4_3 : decode cJ6_bitCount_0f7a4 3 = .ok (.iushr, 1) := by decide +kernel
theorem dJ6_bitCount_0f7a4_4 : decode cJ6_bitCount_0f7a4 4 = .ok (.ldc_w 265, 3) := by decide +kernel
theorem dJ6_bitCount_0f7a4_7 : decode cJ6_bitCount_0f7a4 7 = .ok (.iand, 1) := by decide +kernel
theorem dJ6_bitCount_0f7a4_8 : decode cJ6_bitCount_0f7a4 8 = .ok (.isub, 1) := by decide +kernel
theorem dJ6_bitCount_0f7a4_9 : decode cJ6_bitCount_0f7a4 9 = .ok (.istore_n 0, 1) := by decide +kernel
theorem dJ6_bitCount_0f7a4_10 : decode cJ6_bitCount_0f7a4 10 = .ok (.iload_n 0, 1) := by decide +kernel
theorem dJ6_bitCount_0f7a4_11 : decode cJ6_bitCount_0f7a4 11 = .ok (.ldc_w 266, 3) := by decide +kernel
theorem dJ6_bitCount_0f7a4_14 : decode cJ6_bitCount_0f7a4 14 = .ok (.iand, 1) := by decide +kernel
theorem dJ6_bitCount_0f7a4_15 : decode cJ6_bitCount_0f7a4 15 = .ok (.iload_n 0, 1) := by decide +kernel
theorem dJ6_bitCount_0f7a4_16 : decode cJ6_bitCount_0f7a4 16 = .ok (.iconst 2, 1) := by decide +kernel
theorem dJ6_bitCount_0f7a4_17 : decode cJ6_bitCount_0f7a4 17 = .ok (.iushr, 1) := by decide +kernel
theorem dJ6_bitCount_0f7a4_18 : decode cJ6_bitCount_0f7a4 18 = .ok (.ldc_w 266, 3) := by decide +kernel
theorem dJ6_bitCount_0f7a4_21 : decode cJ6_bitCount_0f7a4 21 = .ok (.iand, 1) := by decide +kernel
theorem dJ6_bitCount_0f7a4_22 : decode cJ6_bitCount_0f7a4 22 = .ok (.iadd, 1) := by decide +kernel
theorem dJ6_bitCount_0f7a4_23 : decode cJ6_bitCount_0f7a4 23 = .ok (.istore_n 0, 1) := by decide +kernel
theorem dJ6_bitCount_0f7a4_24 : decode cJ6_bitCount_0f7a4 24 = .ok (.iload_n 0, 1) := by decide +kernel
theorem dJ6_bitCount_0f7a4_25 : decode cJ6_bitCount_0f7a4 25 = .ok (.iload_n 0, 1) := by decide +kernel
theorem dJ6_bitCount_0f7a4_26 : decode cJ6_bitCount_0f7a4 26 = .ok (.iconst 4, 1) := by decide +kernel
theorem dJ6_bitCount_0f7a4_27 : decode cJ6_bitCount_0f7a4 27 = .ok (.iushr, 1) := by decide +kernel
theorem dJ6_bitCount_0f7a4_28 : decode cJ6_bitCount_0f7a4 28 = .ok (.iadd, 1) := by decide +kernel
theorem dJ6_bitCount_0f7a4_29 : decode cJ6_bitCount_0f7a4 29 = .ok (.ldc_w 267, 3) := by decide +kernel
theorem dJ6_bitCount_0f7a4_32 : decode cJ6_bitCount_0f7a4 32 = .ok (.iand, 1) := by decide +kernel
theorem dJ6_bitCount_0f7a4_33 : decode cJ6_bitCount_0f7a4 33 = .ok (.istore_n 0, 1) := by decide +kernel
theorem dJ6_bitCount_0f7a4_34 : decode cJ6_bitCount_0f7a4 34 = .ok (.iload_n 0, 1) := by decide +kernel
theorem dJ6_bitCount_0f7a4_35 : decode cJ6_bitCount_0f7a4 35 = .ok (.iload_n 0, 1) := by decide +kernel
theorem dJ6_bitCount_0f7a4_36 : decode cJ6_bitCount_0f7a4 36 = .ok (.bipush 8, 2) := by decide +kernel
theorem dJ6_bitCount_0f7a4_38 : decode cJ6_bitCount_0f7a4 38 = .ok (.iushr, 1) := by decide +kernel
theorem dJ6_bitCount_0f7a4_39 : decode cJ6_bitCount_0f7a4 39 = .ok (.iadd, 1) := by decide +kernel
theorem dJ6_bitCount_0f7a4_40 : decode cJ6_bitCount_0f7a4 40 = .ok (.istore_n 0, 1) := by decide +kernel
theorem dJ6_bitCount_0f7a4_41 : decode cJ6_bitCount_0f7a4 41 = .ok (.iload_n 0, 1) := by decide +kernel
theorem dJ6_bitCount_0f7a4_42 : decode cJ6_bitCount_0f7a4 42 = .ok (.iload_n 0, 1) := by decide +kernel
theorem dJ6_bitCount_0f7a4_43 : decode cJ6_bitCount_0f7a4 43 = .ok (.bipush 16, 2) := by decide +kernel
theorem dJ6_bitCount_0f7a4_45 : decode cJ6_bitCount_0f7a4 45 = .ok (.iushr, 1) := by decide +kernel
theorem dJ6_bitCount_0f7a4_46 : decode cJ6_bitCount_0f7a4 46 = .ok (.iadd, 1) := by decide +kernel
theorem dJ6_bitCount_0f7a4_47 : decode cJ6_bitCount_0f7a4 47 = .ok (.istore_n 0, 1) := by decide +kernel
theorem dJ6_bitCount_0f7a4_48 : decode cJ6_bitCount_0f7a4 48 = .ok (.iload_n 0, 1) := by decide +kernel
theorem dJ6_bitCount_0f7a4_49 : decode cJ6_bitCount_0f7a4 49 = .ok (.bipush 63, 2) := by decide +kernel
theorem dJ6_bitCount_0f7a4_51 : decode cJ6_bitCount_0f7a4 51 = .ok (.iand, 1) := by decide +kernel
theorem dJ6_bitCount_0f7a4_52 : decode cJ6_bitCount_0f7a4 52 = .ok (.ireturn, 1) := by decide +kernel
theorem dX7_has_0 : decode cX7_has 0 = .ok (.iload_n 0, 1) := by decide +kernel
theorem dX7_has_1 : decode cX7_has 1 = .ok (.iload_n 1, 1) := by decide +kernel
theorem dX7_has_2 : decode cX7_has 2 = .ok (.ishr, 1) := by decide +kernel
theorem dX7_has_3 : decode cX7_has 3 = .ok (.iconst 1, 1) := by decide +kernel
theorem dX7_has_4 : decode cX7_has 4 = .ok (.iand, 1) := by decide +kernel
theorem dX7_has_5 : decode cX7_has 5 = .ok (.ifCond .eq 7, 3) := by decide +kernel
theorem dX7_has_8 : decode cX7_has 8 = .ok (.iconst 1, 1) := by decide +kernel
theorem dX7_has_9 : decode cX7_has 9 = .ok (.goto 4, 3) := by decide +kernel
theorem dX7_has_12 : decode cX7_has 12 = .ok (.iconst 0, 1) := by decide +kernel
theorem dX7_has_13 : decode cX7_has 13 = .ok (.ireturn, 1) := by decide +kernel
theorem dX7_setOf_0 : decode cX7_setOf 0 = .ok (.iconst 1, 1) := by decide +kernel
theorem dX7_setOf_1 : decode cX7_setOf 1 = .ok (.iload_n 0, 1) := by decide +kernel
theorem dX7_setOf_2 : decode cX7_setOf 2 = .ok (.ishl, 1) := by decide +kernel
theorem dX7_setOf_3 : decode cX7_setOf 3 = .ok (.ireturn, 1) := by decide +kernel
theorem dX7_isWithin_0 : decode cX7_isWithin 0 = .ok (.iload_n 0, 1) := by decide +kernel
theorem dX7_isWithin_1 : decode cX7_isWithin 1 = .ok (.iload_n 1, 1) := by decide +kernel
theorem dX7_isWithin_2 : decode cX7_isWithin 2 = .ok (.if_icmp .lt 12, 3) := by decide +kernel
theorem dX7_isWithin_5 : decode cX7_isWithin 5 = .ok (.iload_n 0, 1) := by decide +kernel
theorem dX7_isWithin_6 : decode cX7_isWithin 6 = .ok (.iload_n 2, 1) := by decide +kernel
theorem dX7_isWithin_7 : decode cX7_isWithin 7 = .ok (.if_icmp .gt 7, 3) := by decide +kernel
theorem dX7_isWithin_10 : decode cX7_isWithin 10 = .ok (.iconst 1, 1) := by decide +kernel
theorem dX7_isWithin_11 : decode cX7_isWithin 11 = .ok (.goto 4, 3) := by decide +kernel
theorem dX7_isWithin_14 : decode cX7_isWithin 14 = .ok (.iconst 0, 1) := by decide +kernel
theorem dX7_isWithin_15 : decode cX7_isWithin 15 = .ok (.ireturn, 1) := by decide +kernel
theorem dX7_isNumber_0 : decode cX7_isNumber 0 = .ok (.iload_n 0, 1) := by decide +kernel
theorem dX7_isNumber_1 : decode cX7_isNumber 1 = .ok (.bipush (-99), 2) := by decide +kernel
theorem dX7_isNumber_3 : decode cX7_isNumber 3 = .ok (.bipush 99, 2) := by decide +kernel
theorem dX7_isNumber_5 : decode cX7_isNumber 5 = .ok (.invokestatic 52, 3) := by decide +kernel
theorem dX7_isNumber_8 : decode cX7_isNumber 8 = .ok (.ireturn, 1) := by decide +kernel
theorem dX0_become_0 : decode cX0_become 0 = .ok (.aload_n 0, 1) := by decide +kernel
theorem dX0_become_1 : decode cX0_become 1 = .ok (.getfield 7, 3) := by decide +kernel
theorem dX0_become_4 : decode cX0_become 4 = .ok (.istore 4, 2) := by decide +kernel
theorem dX0_become_6 : decode cX0_become 6 = .ok (.aload_n 0, 1) := by decide +kernel
theorem dX0_become_7 : decode cX0_become 7 = .ok (.iload_n 1, 1) := by decide +kernel
theorem dX0_become_8 : decode cX0_become 8 = .ok (.putfield 7, 3) := by decide +kernel
theorem dX0_become_11 : decode cX0_become 11 = .ok (.aload_n 0, 1) := by decide +kernel
theorem dX0_become_12 : decode cX0_become 12 = .ok (.iload_n 2, 1) := by decide +kernel
theorem dX0_become_13 : decode cX0_become 13 = .ok (.putfield 13, 3) := by decide +kernel
theorem dX0_become_16 : decode cX0_become 16 = .ok (.aload_n 0, 1) := by decide +kernel
theorem dX0_become_17 : decode cX0_become 17 = .ok (.iload_n 3, 1) := by decide +kernel
theorem dX0_become_18 : decode cX0_become 18 = .ok (.putfield 16, 3) := by decide +kernel
theorem dX0_become_21 : decode cX0_become 21 = .ok (.iload 4, 2) := by decide +kernel
theorem dX0_become_23 : decode cX0_become 23 = .ok (.ireturn, 1) := by decide +kernel
theorem dX5_isMark_0 : decode cX5_isMark 0 = .ok (.aload_n 0, 1) := by decide +kernel
theorem dX5_isMark_1 : decode cX5_isMark 1 = .ok (.getfield 21, 3) := by decide +kernel
theorem dX5_isMark_4 : decode cX5_isMark 4 = .ok (.iconst 3, 1) := by decide +kernel
theorem dX5_isMark_5 : decode cX5_isMark 5 = .ok (.if_icmp .eq 11, 3) := by decide +kernel
theorem dX5_isMark_8 : decode cX5_isMark 8 = .ok (.aload_n 0, 1) := by decide +kernel
theorem dX5_isMark_9 : decode cX5_isMark 9 = .ok (.getfield 21, 3) := by decide +kernel
theorem dX5_isMark_12 : decode cX5_isMark 12 = .ok (.iconst 4, 1) := by decide +kernel
theorem dX5_isMark_13 : decode cX5_isMark 13 = .ok (.if_icmp .ne 7, 3) := by decide +kernel
theorem dX5_isMark_16 : decode cX5_isMark 16 = .ok (.iconst 1, 1) := by decide +kernel
theorem dX5_isMark_17 : decode cX5_isMark 17 = .ok (.goto 4, 3) := by decide +kernel
theorem dX5_isMark_20 : decode cX5_isMark 20 = .ok (.iconst 0, 1) := by decide +kernel
theorem dX5_isMark_21 : decode cX5_isMark 21 = .ok (.ireturn, 1) := by decide +kernel
theorem dX5_isHolder_0 : decode cX5_isHolder 0 = .ok (.aload_n 0, 1) := by decide +kernel
theorem dX5_isHolder_1 : decode cX5_isHolder 1 = .ok (.getfield 21, 3) := by decide +kernel
theorem dX5_isHolder_4 : decode cX5_isHolder 4 = .ok (.ifCond .eq 11, 3) := by decide +kernel
theorem dX5_isHolder_7 : decode cX5_isHolder 7 = .ok (.aload_n 0, 1) := by decide +kernel
theorem dX5_isHolder_8 : decode cX5_isHolder 8 = .ok (.getfield 21, 3) := by decide +kernel
theorem dX5_isHolder_11 : decode cX5_isHolder 11 = .ok (.iconst 1, 1) := by decide +kernel
theorem dX5_isHolder_12 : decode cX5_isHolder 12 = .ok (.if_icmp .ne 7, 3) := by decide +kernel
theorem dX5_isHolder_15 : decode cX5_isHolder 15 = .ok (.iconst 1, 1) := by decide +kernel
theorem dX5_isHolder_16 : decode cX5_isHolder 16 = .ok (.goto 4, 3) := by decide +kernel
theorem dX5_isHolder_19 : decode cX5_isHolder 19 = .ok (.iconst 0, 1) := by decide +kernel
theorem dX5_isHolder_20 : decode cX5_isHolder 20 = .ok (.ireturn, 1) := by decide +kernel
theorem dX5_putFirst_0 : decode cX5_putFirst 0 = .ok (.aload_n 0, 1) := by decide +kernel
theorem dX5_putFirst_1 : decode cX5_putFirst 1 = .ok (.iload_n 1, 1) := by decide +kernel
theorem dX5_putFirst_2 : decode cX5_putFirst 2 = .ok (.putfield 28, 3) := by decide +kernel
theorem dX5_putFirst_5 : decode cX5_putFirst 5 = .ok (.aload_n 0, 1) := by decide +kernel
theorem dX5_putFirst_6 : decode cX5_putFirst 6 = .ok (.iload_n 1, 1) := by decide +kernel
theorem dX5_putFirst_7 : decode cX5_putFirst 7 = .ok (.invokestatic 31, 3) := by decide +kernel
theorem dX5_putFirst_10 : decode cX5_putFirst 10 = .ok (.putfield 35, 3) := by decide +kernel
theorem dX5_putFirst_13 : decode cX5_putFirst 13 = .ok (.return_, 1) := by decide +kernel
theorem dX5_putPart_0 : decode cX5_putPart 0 = .ok (.aload_n 0, 1) := by decide +kernel
theorem dX5_putPart_1 : decode cX5_putPart 1 = .ok (.getfield 21, 3) := by decide +kernel
theorem dX5_putPart_4 : decode cX5_putPart 4 = .ok (.ifCond .ne 15, 3) := by decide +kernel
theorem dX5_putPart_7 : decode cX5_putPart 7 = .ok (.aload_n 0, 1) := by decide +kernel
theorem dX5_putPart_8 : decode cX5_putPart 8 = .ok (.getfield 38, 3) := by decide +kernel
theorem dX5_putPart_11 : decode cX5_putPart 11 = .ok (.ifCond .ne 8, 3) := by decide +kernel
theorem dX5_putPart_14 : decode cX5_putPart 14 = .ok (.aload_n 0, 1) := by decide +kernel
theorem dX5_putPart_15 : decode cX5_putPart 15 = .ok (.iload_n 1, 1) := by decide +kernel
theorem dX5_putPart_16 : decode cX5_putPart 16 = .ok (.invokevirtual 41, 3) := by decide +kernel
theorem dX5_putPart_19 : decode cX5_putPart 19 = .ok (.aload_n 0, 1) := by decide +kernel
theorem dX5_putPart_20 : decode cX5_putPart 20 = .ok (.dup, 1) := by decide +kernel
theorem dX5_putPart_21 : decode cX5_putPart 21 = .ok (.getfield 38, 3) := by decide +kernel
theorem dX5_putPart_24 : decode cX5_putPart 24 = .ok (.iload_n 1, 1) := by decide +kernel
theorem dX5_putPart_25 : decode cX5_putPart 25 = .ok (.invokestatic 31, 3) := by decide +kernel
theorem dX5_putPart_28 : decode cX5_putPart 28 = .ok (.ior, 1) := by decide +kernel
theorem dX5_putPart_29 : decode cX5_putPart 29 = .ok (.putfield 38, 3) := by decide +kernel
theorem dX5_putPart_32 : decode cX5_putPart 32 = .ok (.aload_n 0, 1) := by decide +kernel
theorem dX5_putPart_33 : decode cX5_putPart 33 = .ok (.getfield 21, 3) := by decide +kernel
theorem dX5_putPart_36 : decode cX5_putPart 36 = .ok (.iconst 1, 1) := by decide +kernel
theorem dX5_putPart_37 : decode cX5_putPart 37 = .ok (.if_icmp .ne 11, 3) := by decide +kernel
theorem dX5_putPart_40 : decode cX5_putPart 40 = .ok (.aload_n 0, 1) := by decide +kernel
theorem dX5_putPart_41 : decode cX5_putPart 41 = .ok (.aload_n 0, 1) := by decide +kernel
theorem dX5_putPart_42 : decode cX5_putPart 42 = .ok (.getfield 38, 3) := by decide +kernel
theorem dX5_putPart_45 : decode cX5_putPart 45 = .ok (.putfield 35, 3) := by decide +kernel
theorem dX5_putPart_48 : decode cX5_putPart 48 = .ok (.return_, 1) := by decide +kernel
theorem dX6_isAllowed_0 : decode cX6_isAllowed 0 = .ok (.aload_n 0, 1) := by decide +kernel
theorem dX6_isAllowed_1 : decode cX6_isAllowed 1 = .ok (.getfield 25, 3) := by decide +kernel
theorem dX6_isAllowed_4 : decode cX6_isAllowed 4 = .ok (.tableswitch 85 1 3 #[28, 47, 66], 28) := by decide +kernel
theorem dX6_isAllowed_32 : decode cX6_isAllowed 32 = .ok (.aload_n 1, 1) := by decide +kernel
theorem dX6_isAllowed_33 : decode cX6_isAllowed 33 = .ok (.aload_n 0, 1) := by decide +kernel
theorem dX6_isAllowed_34 : decode cX6_isAllowed 34 = .ok (.getfield 28, 3) := by decide +kernel
theorem dX6_isAllowed_37 : decode cX6_isAllowed 37 = .ok (.iaload, 1) := by decide +kernel
theorem dX6_isAllowed_38 : decode cX6_isAllowed 38 = .ok (.aload_n 0, 1) := by decide +kernel
theorem dX6_isAllowed_39 : decode cX6_isAllowed 39 = .ok (.getfield 31, 3) := by decide +kernel
theorem dX6_isAllowed_42 : decode cX6_isAllowed 42 = .ok (.if_icmp .ge 7, 3) := by decide +kernel
theorem dX6_isAllowed_45 : decode cX6_isAllowed 45 = .ok (.iconst 1, 1) := by decide +kernel
theorem dX6_isAllowed_46 : decode cX6_isAllowed 46 = .ok (.goto 4, 3) := by decide +kernel
theorem dX6_isAllowed_49 : decode cX6_isAllowed 49 = .ok (.iconst 0, 1) := by decide +kernel
theorem dX6_isAllowed_50 : decode cX6_isAllowed 50 = .ok (.ireturn, 1) := by decide +kernel
theorem dX6_isAllowed_51 : decode cX6_isAllowed 51 = .ok (.aload_n 1, 1) := by decide +kernel
theorem dX6_isAllowed_52 : decode cX6_isAllowed 52 = .ok (.aload_n 0, 1) := by decide +kernel
theorem dX6_isAllowed_53 : decode cX6_isAllowed 53 = .ok (.getfield 28, 3) := by decide +kernel
theorem dX6_isAllowed_56 : decode cX6_isAllowed 56 = .ok (.iaload, 1) := by decide +kernel
theorem dX6_isAllowed_57 : decode cX6_isAllowed 57 = .ok (.aload_n 0, 1) := by decide +kernel
theorem dX6_isAllowed_58 : decode cX6_isAllowed 58 = .ok (.getfield 31, 3) := by decide +kernel
theorem dX6_isAllowed_61 : decode cX6_isAllowed 61 = .ok (.if_icmp .ne 7, 3) := by decide +kernel
theorem dX6_isAllowed_64 : decode cX6_isAllowed 64 = .ok (.iconst 1, 1) := by decide +kernel
theorem dX6_isAllowed_65 : decode cX6_isAllowed 65 = .ok (.goto 4, 3) := by decide +kernel
theorem dX6_isAllowed_68 : decode cX6_isAllowed 68 = .ok (.iconst 0, 1) := by decide +kernel
theorem dX6_isAllowed_69 : decode cX6_isAllowed 69 = .ok (.ireturn, 1) := by decide +kernel
theorem dX6_isAllowed_70 : decode cX6_isAllowed 70 = .ok (.aload_n 1, 1) := by decide +kernel
theorem dX6_isAllowed_71 : decode cX6_isAllowed 71 = .ok (.aload_n 0, 1) := by decide +kernel
theorem dX6_isAllowed_72 : decode cX6_isAllowed 72 = .ok (.getfield 28, 3) := by decide +kernel
theorem dX6_isAllowed_75 : decode cX6_isAllowed 75 = .ok (.iaload, 1) := by decide +kernel
theorem dX6_isAllowed_76 : decode cX6_isAllowed 76 = .ok (.aload_n 0, 1) := by decide +kernel
theorem dX6_isAllowed_77 : decode cX6_isAllowed 77 = .ok (.getfield 31, 3) := by decide +kernel
theorem dX6_isAllowed_80 : decode cX6_isAllowed 80 = .ok (.if_icmp .le 7, 3) := by decide +kernel
theorem dX6_isAllowed_83 : decode cX6_isAllowed 83 = .ok (.iconst 1, 1) := by decide +kernel
theorem dX6_isAllowed_84 : decode cX6_isAllowed 84 = .ok (.goto 4, 3) := by decide +kernel
theorem dX6_isAllowed_87 : decode cX6_isAllowed 87 = .ok (.iconst 0, 1) := by decide +kernel
theorem dX6_isAllowed_88 : decode cX6_isAllowed 88 = .ok (.ireturn, 1) := by decide +kernel
theorem dX6_isAllowed_89 : decode cX6_isAllowed 89 = .ok (.iconst 1, 1) := by decide +kernel
theorem dX6_isAllowed_90 : decode cX6_isAllowed 90 = .ok (.ireturn, 1) := by decide +kernel
theorem dX4_deactivate_0 : decode cX4_deactivate 0 = .ok (.aload_n 0, 1) := by decide +kernel
theorem dX4_deactivate_1 : decode cX4_deactivate 1 = .ok (.iconst 0, 1) := by decide +kernel
theorem dX4_deactivate_2 : decode cX4_deactivate 2 = .ok (.putfield 21, 3) := by decide +kernel
theorem dX4_deactivate_5 : decode cX4_deactivate 5 = .ok (.iconst 0, 1) := by decide +kernel
theorem dX4_deactivate_6 : decode cX4_deactivate 6 = .ok (.istore_n 1, 1) := by decide +kernel
theorem dX4_deactivate_7 : decode cX4_deactivate 7 = .ok (.iload_n 1, 1) := by decide +kernel
theorem dX4_deactivate_8 : decode cX4_deactivate 8 = .ok (.aload_n 0, 1) := by decide +kernel
theorem dX4_deactivate_9 : decode cX4_deactivate 9 = .ok (.getfield 9, 3) := by decide +kernel
theorem dX4_deactivate_12 : decode cX4_deactivate 12 = .ok (.arraylength, 1) := by decide +kernel
theorem dX4_deactivate_13 : decode cX4_deactivate 13 = .ok (.if_icmp .ge 16, 3) := by decide +kernel
theorem dX4_deactivate_16 : decode cX4_deactivate 16 = .ok (.aload_n 0, 1) := by decide +kernel
theorem dX4_deactivate_17 : decode cX4_deactivate 17 = .ok (.getfield 9, 3) := by decide +kernel
theorem dX4_deactivate_20 : decode cX4_deactivate 20 = .ok (.iload_n 1, 1) := by decide +kernel
theorem dX4_deactivate_21 : decode cX4_deactivate 21 = .ok (.iconst (-1), 1) := by decide +kernel
theorem dX4_deactivate_22 : decode cX4_deactivate 22 = .ok (.iastore, 1) := by decide +kernel
theorem dX4_deactivate_23 : decode cX4_deactivate 23 = .ok (.iinc 1 1, 3) := by decide +kernel
theorem dX4_deactivate_26 : decode cX4_deactivate 26 = .ok (.goto (-19), 3) := by decide +kernel
theorem dX4_deactivate_29 : decode cX4_deactivate 29 = .ok (.return_, 1) := by decide +kernel
theorem dX4_clear_0 : decode cX4_clear 0 = .ok (.aload_n 0, 1) := by decide +kernel
theorem dX4_clear_1 : decode cX4_clear 1 = .ok (.invokevirtual 25, 3) := by decide +kernel
theorem dX4_clear_4 : decode cX4_clear 4 = .ok (.iconst 0, 1) := by decide +kernel
theorem dX4_clear_5 : decode cX4_clear 5 = .ok (.istore_n 1, 1) := by decide +kernel
theorem dX4_clear_6 : decode cX4_clear 6 = .ok (.iload_n 1, 1) := by decide +kernel
theorem dX4_clear_7 : decode cX4_clear 7 = .ok (.aload_n 0, 1) := by decide +kernel
theorem dX4_clear_8 : decode cX4_clear 8 = .ok (.getfield 15, 3) := by decide +kernel
theorem dX4_clear_11 : decode cX4_clear 11 = .ok (.arraylength, 1) := by decide +kernel
theorem dX4_clear_12 : decode cX4_clear 12 = .ok (.if_icmp .ge 16, 3) := by decide +kernel
theorem dX4_clear_15 : decode cX4_clear 15 = .ok (.aload_n 0, 1) := by decide +kernel
theorem dX4_clear_16 : decode cX4_clear 16 = .ok (.getfield 15, 3) := by decide +kernel
theorem dX4_clear_19 : decode cX4_clear 19 = .ok (.iload_n 1, 1) := by decide +kernel
theorem dX4_clear_20 : decode cX4_clear 20 = .ok (.iconst 0, 1) := by decide +kernel
theorem dX4_clear_21 : decode cX4_clear 21 = .ok (.iastore, 1) := by decide +kernel
theorem dX4_clear_22 : decode cX4_clear 22 = .ok (.iinc 1 1, 3) := by decide +kernel
theorem dX4_clear_25 : decode cX4_clear 25 = .ok (.goto (-19), 3) := by decide +kernel
theorem dX4_clear_28 : decode cX4_clear 28 = .ok (.iconst 0, 1) := by decide +kernel
theorem dX4_clear_29 : decode cX4_clear 29 = .ok (.istore_n 1, 1) := by decide +kernel
theorem dX4_clear_30 : decode cX4_clear 30 = .ok (.iload_n 1, 1) := by decide +kernel
theorem dX4_clear_31 : decode cX4_clear 31 = .ok (.aload_n 0, 1) := by decide +kernel
theorem dX4_clear_32 : decode cX4_clear 32 = .ok (.getfield 18, 3) := by decide +kernel
theorem dX4_clear_35 : decode cX4_clear 35 = .ok (.arraylength, 1) := by decide +kernel
theorem dX4_clear_36 : decode cX4_clear 36 = .ok (.if_icmp .ge 16, 3) := by decide +kernel
theorem dX4_clear_39 : decode cX4_clear 39 = .ok (.aload_n 0, 1) := by decide +kernel
theorem dX4_clear_40 : decode cX4_clear 40 = .ok (.getfield 18, 3) := by decide +kernel
theorem dX4_clear_43 : decode cX4_clear 43 = .ok (.iload_n 1, 1) := by decide +kernel
theorem dX4_clear_44 : decode cX4_clear 44 = .ok (.iconst 0, 1) := by decide +kernel
theorem dX4_clear_45 : decode cX4_clear 45 = .ok (.iastore, 1) := by decide +kernel
theorem dX4_clear_46 : decode cX4_clear 46 = .ok (.iinc 1 1, 3) := by decide +kernel
theorem dX4_clear_49 : decode cX4_clear 49 = .ok (.goto (-19), 3) := by decide +kernel
theorem dX4_clear_52 : decode cX4_clear 52 = .ok (.return_, 1) := by decide +kernel
theorem dX4_add_0 : decode cX4_add 0 = .ok (.aload_n 0, 1) := by decide +kernel
theorem dX4_add_1 : decode cX4_add 1 = .ok (.getfield 18, 3) := by decide +kernel
theorem dX4_add_4 : decode cX4_add 4 = .ok (.iload_n 1, 1) := by decide +kernel
theorem dX4_add_5 : decode cX4_add 5 = .ok (.iaload, 1) := by decide +kernel
theorem dX4_add_6 : decode cX4_add 6 = .ok (.iload_n 2, 1) := by decide +kernel
theorem dX4_add_7 : decode cX4_add 7 = .ok (.iadd, 1) := by decide +kernel
theorem dX4_add_8 : decode cX4_add 8 = .ok (.istore_n 3, 1) := by decide +kernel
theorem dX4_add_9 : decode cX4_add 9 = .ok (.aload_n 0, 1) := by decide +kernel
theorem dX4_add_10 : decode cX4_add 10 = .ok (.getfield 18, 3) := by decide +kernel
theorem dX4_add_13 : decode cX4_add 13 = .ok (.iload_n 1, 1) := by decide +kernel
theorem dX4_add_14 : decode cX4_add 14 = .ok (.bipush (-99), 2) := by decide +kernel
theorem dX4_add_16 : decode cX4_add 16 = .ok (.bipush 99, 2) := by decide +kernel
theorem dX4_add_18 : decode cX4_add 18 = .ok (.iload_n 3, 1) := by decide +kernel
theorem dX4_add_19 : decode cX4_add 19 = .ok (.invokestatic 28, 3) := by decide +kernel
theorem dX4_add_22 : decode cX4_add 22 = .ok (.invokestatic 34, 3) := by decide +kernel
theorem dX4_add_25 : decode cX4_add 25 = .ok (.iastore, 1) := by decide +kernel
theorem dX4_add_26 : decode cX4_add 26 = .ok (.return_, 1) := by decide +kernel
theorem dX4_copyFrom_0 : decode cX4_copyFrom 0 = .ok (.aload_n 0, 1) := by decide +kernel
theorem dX4_copyFrom_1 : decode cX4_copyFrom 1 = .ok (.aload_n 1, 1) := by decide +kernel
theorem dX4_copyFrom_2 : decode cX4_copyFrom 2 = .ok (.getfield 21, 3) := by decide +kernel
theorem dX4_copyFrom_5 : decode cX4_copyFrom 5 = .ok (.putfield 21, 3) := by decide +kernel
theorem dX4_copyFrom_8 : decode cX4_copyFrom 8 = .ok (.aload_n 1, 1) := by decide +kernel
theorem dX4_copyFrom_9 : decode cX4_copyFrom 9 = .ok (.getfield 9, 3) := by decide +kernel
theorem dX4_copyFrom_12 : decode cX4_copyFrom 12 = .ok (.iconst 0, 1) := by decide +kernel
theorem dX4_copyFrom_13 : decode cX4_copyFrom 13 = .ok (.aload_n 0, 1) := by decide +kernel
theorem dX4_copyFrom_14 : decode cX4_copyFrom 14 = .ok (.getfield 9, 3) := by decide +kernel
theorem dX4_copyFrom_17 : decode cX4_copyFrom 17 = .ok (.iconst 0, 1) := by decide +kernel
theorem dX4_copyFrom_18 : decode cX4_copyFrom 18 = .ok (.aload_n 0, 1) := by decide +kernel
theorem dX4_copyFrom_19 : decode cX4_copyFrom 19 = .ok (.getfield 9, 3) := by decide +kernel
theorem dX4_copyFrom_22 : decode cX4_copyFrom 22 = .ok (.arraylength, 1) := by decide +kernel
theorem dX4_copyFrom_23 : decode cX4_copyFrom 23 = .ok (.invokestatic 37, 3) := by decide +kernel
theorem dX4_copyFrom_26 : decode cX4_copyFrom 26 = .ok (.aload_n 1, 1) := by decide +kernel
theorem dX4_copyFrom_27 : decode cX4_copyFrom 27 = .ok (.getfield 15, 3) := by decide +kernel
theorem dX4_copyFrom_30 : decode cX4_copyFrom 30 = .ok (.iconst 0, 1) := by decide +kernel
theorem dX4_copyFrom_31 : decode cX4_copyFrom 31 = .ok (.aload_n 0, 1) := by decide +kernel
theorem dX4_copyFrom_32 : decode cX4_copyFrom 32 = .ok (.getfield 15, 3) := by decide +kernel
theorem dX4_copyFrom_35 : decode cX4_copyFrom 35 = .ok (.iconst 0, 1) := by decide +kernel
theorem dX4_copyFrom_36 : decode cX4_copyFrom 36 = .ok (.aload_n 0, 1) := by decide +kernel
theorem dX4_copyFrom_37 : decode cX4_copyFrom 37 = .ok (.getfield 15, 3) := by decide +kernel
theorem dX4_copyFrom_40 : decode cX4_copyFrom 40 = .ok (.arraylength, 1) := by decide +kernel
theorem dX4_copyFrom_41 : decode cX4_copyFrom 41 = .ok (.invokestatic 37, 3) := by decide +kernel
theorem dX4_copyFrom_44 : decode cX4_copyFrom 44 = .ok (.aload_n 1, 1) := by decide +kernel
theorem dX4_copyFrom_45 : decode cX4_copyFrom 45 = .ok (.getfield 18, 3) := by decide +kernel
theorem dX4_copyFrom_48 : decode cX4_copyFrom 48 = .ok (.iconst 0, 1) := by decide +kernel
theorem dX4_copyFrom_49 : decode cX4_copyFrom 49 = .ok (.aload_n 0, 1) := by decide +kernel
theorem dX4_copyFrom_50 : decode cX4_copyFrom 50 = .ok (.getfield 18, 3) := by decide +kernel
theorem dX4_copyFrom_53 : decode cX4_copyFrom 53 = .ok (.iconst 0, 1) := by decide +kernel
theorem dX4_copyFrom_54 : decode cX4_copyFrom 54 = .ok (.aload_n 0, 1) := by decide +kernel
theorem dX4_copyFrom_55 : decode cX4_copyFrom 55 = .ok (.getfield 18, 3) := by decide +kernel
theorem dX4_copyFrom_58 : decode cX4_copyFrom 58 = .ok (.arraylength, 1) := by decide +kernel
theorem dX4_copyFrom_59 : decode cX4_copyFrom 59 = .ok (.invokestatic 37, 3) := by decide +kernel
theorem dX4_copyFrom_62 : decode cX4_copyFrom 62 = .ok (.return_, 1) := by decide +kernel
theorem dX4_isSameAs_0 : decode cX4_isSameAs 0 = .ok (.aload_n 0, 1) := by decide +kernel
theorem dX4_isSameAs_1 : decode cX4_isSameAs 1 = .ok (.getfield 21, 3) := by decide +kernel
theorem dX4_isSameAs_4 : decode cX4_isSameAs 4 = .ok (.aload_n 1, 1) := by decide +kernel
theorem dX4_isSameAs_5 : decode cX4_isSameAs 5 = .ok (.getfield 21, 3) := by decide +kernel
theorem dX4_isSameAs_8 : decode cX4_isSameAs 8 = .ok (.if_icmp .eq 5, 3) := by decide +kernel
theorem dX4_isSameAs_11 : decode cX4_isSameAs 11 = .ok (.iconst 0, 1) := by decide +kernel
theorem dX4_isSameAs_12 : decode cX4_isSameAs 12 = .ok (.ireturn, 1) := by decide +kernel
theorem dX4_isSameAs_13 : decode cX4_isSameAs 13 = .ok (.iconst 0, 1) := by decide +kernel
theorem dX4_isSameAs_14 : decode cX4_isSameAs 14 = .ok (.istore_n 2, 1) := by decide +kernel
theorem dX4_isSameAs_15 : decode cX4_isSameAs 15 = .ok (.iload_n 2, 1) := by decide +kernel
theorem dX4_isSameAs_16 : decode cX4_isSameAs 16 = .ok (.aload_n 0, 1) := by decide +kernel
theorem dX4_isSameAs_17 : decode cX4_isSameAs 17 = .ok (.getfield 18, 3) := by decide +kernel
theorem dX4_isSameAs_20 : decode cX4_isSameAs 20 = .ok (.arraylength, 1) := by decide +kernel
theorem dX4_isSameAs_21 : decode cX4_isSameAs 21 = .ok (.if_icmp .ge 26, 3) := by decide +kernel
theorem dX4_isSameAs_24 : decode cX4_isSameAs 24 = .ok (.aload_n 0, 1) := by decide +kernel
theorem dX4_isSameAs_25 : decode cX4_isSameAs 25 = .ok (.getfield 18, 3) := by decide +kernel
theorem dX4_isSameAs_28 : decode cX4_isSameAs 28 = .ok (.iload_n 2, 1) := by decide +kernel
theorem dX4_isSameAs_29 : decode cX4_isSameAs 29 = .ok (.iaload, 1) := by decide +kernel
theorem dX4_isSameAs_30 : decode cX4_isSameAs 30 = .ok (.aload_n 1, 1) := by decide +kernel
theorem dX4_isSameAs_31 : decode cX4_isSameAs 31 = .ok (.getfield 18, 3) := by decide +kernel
theorem dX4_isSameAs_34 : decode cX4_isSameAs 34 = .ok (.iload_n 2, 1) := by decide +kernel
theorem dX4_isSameAs_35 : decode cX4_isSameAs 35 = .ok (.iaload, 1) := by decide +kernel
theorem dX4_isSameAs_36 : decode cX4_isSameAs 36 = .ok (.if_icmp .eq 5, 3) := by decide +kernel
theorem dX4_isSameAs_39 : decode cX4_isSameAs 39 = .ok (.iconst 0, 1) := by decide +kernel
theorem dX4_isSameAs_40 : decode cX4_isSameAs 40 = .ok (.ireturn, 1) := by decide +kernel
theorem dX4_isSameAs_41 : decode cX4_isSameAs 41 = .ok (.iinc 2 1, 3) := by decide +kernel
theorem dX4_isSameAs_44 : decode cX4_isSameAs 44 = .ok (.goto (-29), 3) := by decide +kernel
theorem dX4_isSameAs_47 : decode cX4_isSameAs 47 = .ok (.iconst 0, 1) := by decide +kernel
theorem dX4_isSameAs_48 : decode cX4_isSameAs 48 = .ok (.istore_n 2, 1) := by decide +kernel
theorem dX4_isSameAs_49 : decode cX4_isSameAs 49 = .ok (.iload_n 2, 1) := by decide +kernel
theorem dX4_isSameAs_50 : decode cX4_isSameAs 50 = .ok (.aload_n 0, 1) := by decide +kernel
theorem dX4_isSameAs_51 : decode cX4_isSameAs 51 = .ok (.getfield 9, 3) := by decide +kernel
theorem dX4_isSameAs_54 : decode cX4_isSameAs 54 = .ok (.arraylength, 1) := by decide +kernel
theorem dX4_isSameAs_55 : decode cX4_isSameAs 55 = .ok (.if_icmp .ge 51, 3) := by decide +kernel
theorem dX4_isSameAs_58 : decode cX4_isSameAs 58 = .ok (.aload_n 0, 1) := by decide +kernel
theorem dX4_isSameAs_59 : decode cX4_isSameAs 59 = .ok (.getfield 9, 3) := by decide +kernel
theorem dX4_isSameAs_62 : decode cX4_isSameAs 62 = .ok (.iload_n 2, 1) := by decide +kernel
theorem dX4_isSameAs_63 : decode cX4_isSameAs 63 = .ok (.iaload, 1) := by decide +kernel
theorem dX4_isSameAs_64 : decode cX4_isSameAs 64 = .ok (.bipush 50, 2) := by decide +kernel
theorem dX4_isSameAs_66 : decode cX4_isSameAs 66 = .ok (.invokestatic 28, 3) := by decide +kernel
theorem dX4_isSameAs_69 : decode cX4_isSameAs 69 = .ok (.aload_n 1, 1) := by decide +kernel
theorem dX4_isSameAs_70 : decode cX4_isSameAs 70 = .ok (.getfield 9, 3) := by decide +kernel
theorem dX4_isSameAs_73 : decode cX4_isSameAs 73 = .ok (.iload_n 2, 1) := by decide +kernel
theorem dX4_isSameAs_74 : decode cX4_isSameAs 74 = .ok (.iaload, 1) := by decide +kernel
theorem dX4_isSameAs_75 : decode cX4_isSameAs 75 = .ok (.bipush 50, 2) := by decide +kernel
theorem dX4_isSameAs_77 : decode cX4_isSameAs 77 = .ok (.invokestatic 28, 3) := by decide +kernel
theorem dX4_isSameAs_80 : decode cX4_isSameAs 80 = .ok (.if_icmp .ne 18, 3) := by decide +kernel
theorem dX4_isSameAs_83 : decode cX4_isSameAs 83 = .ok (.aload_n 0, 1) := by decide +kernel
theorem dX4_isSameAs_84 : decode cX4_isSameAs 84 = .ok (.getfield 15, 3) := by decide +kernel
theorem dX4_isSameAs_87 : decode cX4_isSameAs 87 = .ok (.iload_n 2, 1) := by decide +kernel
theorem dX4_isSameAs_88 : decode cX4_isSameAs 88 = .ok (.iaload, 1) := by decide +kernel
theorem dX4_isSameAs_89 : decode cX4_isSameAs 89 = .ok (.aload_n 1, 1) := by decide +kernel
theorem dX4_isSameAs_90 : decode cX4_isSameAs 90 = .ok (.getfield 15, 3) := by decide +kernel
theorem dX4_isSameAs_93 : decode cX4_isSameAs 93 = .ok (.iload_n 2, 1) := by decide +kernel
theorem dX4_isSameAs_94 : decode cX4_isSameAs 94 = .ok (.iaload, 1) := by decide +kernel
theorem dX4_isSameAs_95 : decode cX4_isSameAs 95 = .ok (.if_icmp .eq 5, 3) := by decide +kernel
theorem dX4_isSameAs_98 : decode cX4_isSameAs 98 = .ok (.iconst 0, 1) := by decide +kernel
theorem dX4_isSameAs_99 : decode cX4_isSameAs 99 = .ok (.ireturn, 1) := by decide +kernel
theorem dX4_isSameAs_100 : decode cX4_isSameAs 100 = .ok (.iinc 2 1, 3) := by decide +kernel
theorem dX4_isSameAs_103 : decode cX4_isSameAs 103 = .ok (.goto (-54), 3) := by decide +kernel
theorem dX4_isSameAs_106 : decode cX4_isSameAs 106 = .ok (.iconst 1, 1) := by decide +kernel
theorem dX4_isSameAs_107 : decode cX4_isSameAs 107 = .ok (.ireturn, 1) := by decide +kernel
theorem dX1_putState_0 : decode cX1_putState 0 = .ok (.aload_n 0, 1) := by decide +kernel
theorem dX1_putState_1 : decode cX1_putState 1 = .ok (.getfield 27, 3) := by decide +kernel
theorem dX1_putState_4 : decode cX1_putState 4 = .ok (.istore_n 3, 1) := by decide +kernel
theorem dX1_putState_5 : decode cX1_putState 5 = .ok (.aload_n 0, 1) := by decide +kernel
theorem dX1_putState_6 : decode cX1_putState 6 = .ok (.getfield 11, 3) := by decide +kernel
theorem dX1_putState_9 : decode cX1_putState 9 = .ok (.iload_n 3, 1) := by decide +kernel
theorem dX1_putState_10 : decode cX1_putState 10 = .ok (.aaload, 1) := by decide +kernel
theorem dX1_putState_11 : decode cX1_putState 11 = .ok (.astore 4, 2) := by decide +kernel
theorem dX1_putState_13 : decode cX1_putState 13 = .ok (.aload 4, 2) := by decide +kernel
theorem dX1_putState_15 : decode cX1_putState 15 = .ok (.iload_n 2, 1) := by decide +kernel
theorem dX1_putState_16 : decode cX1_putState 16 = .ok (.putfield 40, 3) := by decide +kernel
theorem dX1_putState_19 : decode cX1_putState 19 = .ok (.aload 4, 2) := by decide +kernel
theorem dX1_putState_21 : decode cX1_putState 21 = .ok (.iload_n 1, 1) := by decide +kernel
theorem dX1_putState_22 : decode cX1_putState 22 = .ok (.putfield 43, 3) := by decide +kernel
theorem dX1_putState_25 : decode cX1_putState 25 = .ok (.aload_n 0, 1) := by decide +kernel
theorem dX1_putState_26 : decode cX1_putState 26 = .ok (.dup, 1) := by decide +kernel
theorem dX1_putState_27 : decode cX1_putState 27 = .ok (.getfield 27, 3) := by decide +kernel
theorem dX1_putState_30 : decode cX1_putState 30 = .ok (.iconst 1, 1) := by decide +kernel
theorem dX1_putState_31 : decode cX1_putState 31 = .ok (.iadd, 1) := by decide +kernel
theorem dX1_putState_32 : decode cX1_putState 32 = .ok (.putfield 27, 3) := by decide +kernel
theorem dX1_putState_35 : decode cX1_putState 35 = .ok (.iconst 0, 1) := by decide +kernel
theorem dX1_putState_36 : decode cX1_putState 36 = .ok (.istore 5, 2) := by decide +kernel
theorem dX1_putState_38 : decode cX1_putState 38 = .ok (.iload 5, 2) := by decide +kernel
theorem dX1_putState_40 : decode cX1_putState 40 = .ok (.iload_n 3, 1) := by decide +kernel
theorem dX1_putState_41 : decode cX1_putState 41 = .ok (.if_icmp .ge 51, 3) := by decide +kernel
theorem dX1_putState_44 : decode cX1_putState 44 = .ok (.iload 5, 2) := by decide +kernel
theorem dX1_putState_46 : decode cX1_putState 46 = .ok (.iload_n 1, 1) := by decide +kernel
theorem dX1_putState_47 : decode cX1_putState 47 = .ok (.if_icmp .eq 20, 3) := by decide +kernel
theorem dX1_putState_50 : decode cX1_putState 50 = .ok (.aload_n 0, 1) := by decide +kernel
theorem dX1_putState_51 : decode cX1_putState 51 = .ok (.getfield 11, 3) := by decide +kernel
theorem dX1_putState_54 : decode cX1_putState 54 = .ok (.iload 5, 2) := by decide +kernel
theorem dX1_putState_56 : decode cX1_putState 56 = .ok (.aaload, 1) := by decide +kernel
theorem dX1_putState_57 : decode cX1_putState 57 = .ok (.getfield 46, 3) := by decide +kernel
theorem dX1_putState_60 : decode cX1_putState 60 = .ok (.iload_n 1, 1) := by decide +kernel
theorem dX1_putState_61 : decode cX1_putState 61 = .ok (.invokestatic 49, 3) := by decide +kernel
theorem dX1_putState_64 : decode cX1_putState 64 = .ok (.ifCond .eq 22, 3) := by decide +kernel
theorem dX1_putState_67 : decode cX1_putState 67 = .ok (.aload_n 0, 1) := by decide +kernel
theorem dX1_putState_68 : decode cX1_putState 68 = .ok (.getfield 11, 3) := by decide +kernel
theorem dX1_putState_71 : decode cX1_putState 71 = .ok (.iload 5, 2) := by decide +kernel
theorem dX1_putState_73 : decode cX1_putState 73 = .ok (.aaload, 1) := by decide +kernel
theorem dX1_putState_74 : decode cX1_putState 74 = .ok (.dup, 1) := by decide +kernel
theorem dX1_putState_75 : decode cX1_putState 75 = .ok (.getfield 46, 3) := by decide +kernel
theorem dX1_putState_78 : decode cX1_putState 78 = .ok (.iload_n 3, 1) := by decide +kernel
theorem dX1_putState_79 : decode cX1_putState 79 = .ok (.invokestatic 31, 3) := by decide +kernel
theorem dX1_putState_82 : decode cX1_putState 82 = .ok (.ior, 1) := by decide +kernel
theorem dX1_putState_83 : decode cX1_putState 83 = .ok (.putfield 46, 3) := by decide +kernel
theorem dX1_putState_86 : decode cX1_putState 86 = .ok (.iinc 5 1, 3) := by decide +kernel
theorem dX1_putState_89 : decode cX1_putState 89 = .ok (.goto (-51), 3) := by decide +kernel
theorem dX1_putState_92 : decode cX1_putState 92 = .ok (.aload 4, 2) := by decide +kernel
theorem dX1_putState_94 : decode cX1_putState 94 = .ok (.invokevirtual 53, 3) := by decide +kernel
theorem dX1_putState_97 : decode cX1_putState 97 = .ok (.ifCond .ne 33, 3) := by decide +kernel
theorem dX1_putState_100 : decode cX1_putState 100 = .ok (.aload_n 0, 1) := by decide +kernel
theorem dX1_putState_101 : decode cX1_putState 101 = .ok (.getfield 11, 3) := by decide +kernel
theorem dX1_putState_104 : decode cX1_putState 104 = .ok (.iload_n 1, 1) := by decide +kernel
theorem dX1_putState_105 : decode cX1_putState 105 = .ok (.aaload, 1) := by decide +kernel
theorem dX1_putState_106 : decode cX1_putState 106 = .ok (.iload_n 3, 1) := by decide +kernel
theorem dX1_putState_107 : decode cX1_putState 107 = .ok (.invokevirtual 57, 3) := by decide +kernel
theorem dX1_putState_110 : decode cX1_putState 110 = .ok (.aload_n 0, 1) := by decide +kernel
theorem dX1_putState_111 : decode cX1_putState 111 = .ok (.aload_n 0, 1) := by decide +kernel
theorem dX1_putState_112 : decode cX1_putState 112 = .ok (.getfield 35, 3) := by decide +kernel
theorem dX1_putState_115 : decode cX1_putState 115 = .ok (.iload_n 1, 1) := by decide +kernel
theorem dX1_putState_116 : decode cX1_putState 116 = .ok (.invokestatic 31, 3) := by decide +kernel
theorem dX1_putState_119 : decode cX1_putState 119 = .ok (.iconst (-1), 1) := by decide +kernel
theorem dX1_putState_120 : decode cX1_putState 120 = .ok (.ixor, 1) := by decide +kernel
theorem dX1_putState_121 : decode cX1_putState 121 = .ok (.iand, 1) := by decide +kernel
theorem dX1_putState_122 : decode cX1_putState 122 = .ok (.iload_n 3, 1) := by decide +kernel
theorem dX1_putState_123 : decode cX1_putState 123 = .ok (.invokestatic 31, 3) := by decide +kernel
theorem dX1_putState_126 : decode cX1_putState 126 = .ok (.ior, 1) := by decide +kernel
theorem dX1_putState_127 : decode cX1_putState 127 = .ok (.putfield 35, 3) := by decide +kernel
theorem dX1_putState_130 : decode cX1_putState 130 = .ok (.iload_n 2, 1) := by decide +kernel
theorem dX1_putState_131 : decode cX1_putState 131 = .ok (.iconst 2, 1) := by decide +kernel
theorem dX1_putState_132 : decode cX1_putState 132 = .ok (.if_icmp .ne 16, 3) := by decide +kernel
theorem dX1_putState_135 : decode cX1_putState 135 = .ok (.aload_n 0, 1) := by decide +kernel
theorem dX1_putState_136 : decode cX1_putState 136 = .ok (.dup, 1) := by decide +kernel
theorem dX1_putState_137 : decode cX1_putState 137 = .ok (.getfield 61, 3) := by decide +kernel
theorem dX1_putState_140 : decode cX1_putState 140 = .ok (.iload_n 3, 1) := by decide +kernel
theorem dX1_putState_141 : decode cX1_putState 141 = .ok (.invokestatic 31, 3) := by decide +kernel
theorem dX1_putState_144 : decode cX1_putState 144 = .ok (.ior, 1) := by decide +kernel
theorem dX1_putState_145 : decode cX1_putState 145 = .ok (.putfield 61, 3) := by decide +kernel
theorem dX1_putState_148 : decode cX1_putState 148 = .ok (.iload_n 3, 1) := by decide +kernel
theorem dX1_putState_149 : decode cX1_putState 149 = .ok (.ireturn, 1) := by decide +kernel
theorem dX1_causeOf_0 : decode cX1_causeOf 0 = .ok (.iload_n 0, 1) := by decide +kernel
theorem dX1_causeOf_1 : decode cX1_causeOf 1 = .ok (.ifCond .ne 5, 3) := by decide +kernel
theorem dX1_causeOf_4 : decode cX1_causeOf 4 = .ok (.iload_n 1, 1) := by decide +kernel
theorem dX1_causeOf_5 : decode cX1_causeOf 5 = .ok (.ireturn, 1) := by decide +kernel
theorem dX1_causeOf_6 : decode cX1_causeOf 6 = .ok (.iload_n 0, 1) := by decide +kernel
theorem dX1_causeOf_7 : decode cX1_causeOf 7 = .ok (.iconst 1, 1) := by decide +kernel
theorem dX1_causeOf_8 : decode cX1_causeOf 8 = .ok (.if_icmp .ne 8, 3) := by decide +kernel
theorem dX1_causeOf_11 : decode cX1_causeOf 11 = .ok (.bipush 10, 2) := by decide +kernel
theorem dX1_causeOf_13 : decode cX1_causeOf 13 = .ok (.goto 5, 3) := by decide +kernel
theorem dX1_causeOf_16 : decode cX1_causeOf 16 = .ok (.bipush 11, 2) := by decide +kernel
theorem dX1_causeOf_18 : decode cX1_causeOf 18 = .ok (.ireturn, 1) := by decide +kernel
theorem dX1_scopeOf_0 : decode cX1_scopeOf 0 = .ok (.iload_n 1, 1) := by decide +kernel
theorem dX1_scopeOf_1 : decode cX1_scopeOf 1 = .ok (.invokestatic 31, 3) := by decide +kernel
theorem dX1_scopeOf_4 : decode cX1_scopeOf 4 = .ok (.iload_n 2, 1) := by decide +kernel
theorem dX1_scopeOf_5 : decode cX1_scopeOf 5 = .ok (.invokestatic 31, 3) := by decide +kernel
theorem dX1_scopeOf_8 : decode cX1_scopeOf 8 = .ok (.ior, 1) := by decide +kernel
theorem dX1_scopeOf_9 : decode cX1_scopeOf 9 = .ok (.istore_n 3, 1) := by decide +kernel
theorem dX1_scopeOf_10 : decode cX1_scopeOf 10 = .ok (.iload_n 1, 1) := by decide +kernel
theorem dX1_scopeOf_11 : decode cX1_scopeOf 11 = .ok (.iconst 1, 1) := by decide +kernel
theorem dX1_scopeOf_12 : decode cX1_scopeOf 12 = .ok (.isub, 1) := by decide +kernel
theorem dX1_scopeOf_13 : decode cX1_scopeOf 13 = .ok (.istore 4, 2) := by decide +kernel
theorem dX1_scopeOf_15 : decode cX1_scopeOf 15 = .ok (.iload 4, 2) := by decide +kernel
theorem dX1_scopeOf_17 : decode cX1_scopeOf 17 = .ok (.ifCond .le 41, 3) := by decide +kernel
theorem dX1_scopeOf_20 : decode cX1_scopeOf 20 = .ok (.aload_n 0, 1) := by decide +kernel
theorem dX1_scopeOf_21 : decode cX1_scopeOf 21 = .ok (.getfield 11, 3) := by decide +kernel
theorem dX1_scopeOf_24 : decode cX1_scopeOf 24 = .ok (.iload 4, 2) := by decide +kernel
theorem dX1_scopeOf_26 : decode cX1_scopeOf 26 = .ok (.aaload, 1) := by decide +kernel
theorem dX1_scopeOf_27 : decode cX1_scopeOf 27 = .ok (.getfield 40, 3) := by decide +kernel
theorem dX1_scopeOf_30 : decode cX1_scopeOf 30 = .ok (.ifCond .ne 22, 3) := by decide +kernel
theorem dX1_scopeOf_33 : decode cX1_scopeOf 33 = .ok (.aload_n 0, 1) := by decide +kernel
theorem dX1_scopeOf_34 : decode cX1_scopeOf 34 = .ok (.getfield 11, 3) := by decide +kernel
theorem dX1_scopeOf_37 : decode cX1_scopeOf 37 = .ok (.iload 4, 2) := by decide +kernel
theorem dX1_scopeOf_39 : decode cX1_scopeOf 39 = .ok (.aaload, 1) := by decide +kernel
theorem dX1_scopeOf_40 : decode cX1_scopeOf 40 = .ok (.getfield 46, 3) := by decide +kernel
theorem dX1_scopeOf_43 : decode cX1_scopeOf 43 = .ok (.iload_n 3, 1) := by decide +kernel
theorem dX1_scopeOf_44 : decode cX1_scopeOf 44 = .ok (.iand, 1) := by decide +kernel
theorem dX1_scopeOf_45 : decode cX1_scopeOf 45 = .ok (.iload_n 3, 1) := by decide +kernel
theorem dX1_scopeOf_46 : decode cX1_scopeOf 46 = .ok (.if_icmp .ne 6, 3) := by decide +kernel
theorem dX1_scopeOf_49 : decode cX1_scopeOf 49 = .ok (.iload 4, 2) := by decide +kernel
theorem dX1_scopeOf_51 : decode cX1_scopeOf 51 = .ok (.ireturn, 1) := by decide +kernel
theorem dX1_scopeOf_52 : decode cX1_scopeOf 52 = .ok (.iinc 4 (-1), 3) := by decide +kernel
theorem dX1_scopeOf_55 : decode cX1_scopeOf 55 = .ok (.goto (-40), 3) := by decide +kernel
theorem dX1_scopeOf_58 : decode cX1_scopeOf 58 = .ok (.iconst 0, 1) := by decide +kernel
theorem dX1_scopeOf_59 : decode cX1_scopeOf 59 = .ok (.ireturn, 1) := by decide +kernel
theorem dX1_putTransition_0 : decode cX1_putTransition 0 = .ok (.aload_n 0, 1) := by decide +kernel
theorem dX1_putTransition_1 : decode cX1_putTransition 1 = .ok (.getfield 64, 3) := by decide +kernel
theorem dX1_putTransition_4 : decode cX1_putTransition 4 = .ok (.istore 5, 2) := by decide +kernel
theorem dX1_putTransition_6 : decode cX1_putTransition 6 = .ok (.aload_n 0, 1) := by decide +kernel
theorem dX1_putTransition_7 : decode cX1_putTransition 7 = .ok (.getfield 19, 3) := by decide +kernel
theorem dX1_putTransition_10 : decode cX1_putTransition 10 = .ok (.iload 5, 2) := by decide +kernel
theorem dX1_putTransition_12 : decode cX1_putTransition 12 = .ok (.aaload, 1) := by decide +kernel
theorem dX1_putTransition_13 : decode cX1_putTransition 13 = .ok (.astore 6, 2) := by decide +kernel
theorem dX1_putTransition_15 : decode cX1_putTransition 15 = .ok (.aload 6, 2) := by decide +kernel
theorem dX1_putTransition_17 : decode cX1_putTransition 17 = .ok (.iload_n 1, 1) := by decide +kernel
theorem dX1_putTransition_18 : decode cX1_putTransition 18 = .ok (.putfield 67, 3) := by decide +kernel
theorem dX1_putTransition_21 : decode cX1_putTransition 21 = .ok (.aload 6, 2) := by decide +kernel
theorem dX1_putTransition_23 : decode cX1_putTransition 23 = .ok (.iload_n 2, 1) := by decide +kernel
theorem dX1_putTransition_24 : decode cX1_putTransition 24 = .ok (.putfield 70, 3) := by decide +kernel
theorem dX1_putTransition_27 : decode cX1_putTransition 27 = .ok (.aload 6, 2) := by decide +kernel
theorem dX1_putTransition_29 : decode cX1_putTransition 29 = .ok (.iload_n 3, 1) := by decide +kernel
theorem dX1_putTransition_30 : decode cX1_putTransition 30 = .ok (.putfield 73, 3) := by decide +kernel
theorem dX1_putTransition_33 : decode cX1_putTransition 33 = .ok (.aload 6, 2) := by decide +kernel
theorem dX1_putTransition_35 : decode cX1_putTransition 35 = .ok (.iload 4, 2) := by decide +kernel
theorem dX1_putTransition_37 : decode cX1_putTransition 37 = .ok (.putfield 76, 3) := by decide +kernel
theorem dX1_putTransition_40 : decode cX1_putTransition 40 = .ok (.aload 6, 2) := by decide +kernel
theorem dX1_putTransition_42 : decode cX1_putTransition 42 = .ok (.iload 4, 2) := by decide +kernel
theorem dX1_putTransition_44 : decode cX1_putTransition 44 = .ok (.iconst (-1), 1) := by decide +kernel
theorem dX1_putTransition_45 : decode cX1_putTransition 45 = .ok (.if_icmp .ne 7, 3) := by decide +kernel
theorem dX1_putTransition_48 : decode cX1_putTransition 48 = .ok (.iconst (-1), 1) := by decide +kernel
theorem dX1_putTransition_49 : decode cX1_putTransition 49 = .ok (.goto 10, 3) := by decide +kernel
theorem dX1_putTransition_52 : decode cX1_putTransition 52 = .ok (.aload_n 0, 1) := by decide +kernel
theorem dX1_putTransition_53 : decode cX1_putTransition 53 = .ok (.iload_n 1, 1) := by decide +kernel
theorem dX1_putTransition_54 : decode cX1_putTransition 54 = .ok (.iload 4, 2) := by decide +kernel
theorem dX1_putTransition_56 : decode cX1_putTransition 56 = .ok (.invokevirtual 79, 3) := by decide +kernel
theorem dX1_putTransition_59 : decode cX1_putTransition 59 = .ok (.putfield 83, 3) := by decide +kernel
theorem dX1_putTransition_62 : decode cX1_putTransition 62 = .ok (.aload_n 0, 1) := by decide +kernel
theorem dX1_putTransition_63 : decode cX1_putTransition 63 = .ok (.getfield 11, 3) := by decide +kernel
theorem dX1_putTransition_66 : decode cX1_putTransition 66 = .ok (.iload_n 1, 1) := by decide +kernel
theorem dX1_putTransition_67 : decode cX1_putTransition 67 = .ok (.aaload, 1) := by decide +kernel
theorem dX1_putTransition_68 : decode cX1_putTransition 68 = .ok (.dup, 1) := by decide +kernel
theorem dX1_putTransition_69 : decode cX1_putTransition 69 = .ok (.getfield 86, 3) := by decide +kernel
theorem dX1_putTransition_72 : decode cX1_putTransition 72 = .ok (.iload 5, 2) := by decide +kernel
theorem dX1_putTransition_74 : decode cX1_putTransition 74 = .ok (.invokestatic 31, 3) := by decide +kernel
theorem dX1_putTransition_77 : decode cX1_putTransition 77 = .ok (.ior, 1) := by decide +kernel
theorem dX1_putTransition_78 : decode cX1_putTransition 78 = .ok (.putfield 86, 3) := by decide +kernel
theorem dX1_putTransition_81 : decode cX1_putTransition 81 = .ok (.aload_n 0, 1) := by decide +kernel
theorem dX1_putTransition_82 : decode cX1_putTransition 82 = .ok (.getfield 23, 3) := by decide +kernel
theorem dX1_putTransition_85 : decode cX1_putTransition 85 = .ok (.iload_n 2, 1) := by decide +kernel
theorem dX1_putTransition_86 : decode cX1_putTransition 86 = .ok (.iload_n 3, 1) := by decide +kernel
theorem dX1_putTransition_87 : decode cX1_putTransition 87 = .ok (.invokestatic 89, 3) := by decide +kernel
theorem dX1_putTransition_90 : decode cX1_putTransition 90 = .ok (.dup2, 1) := by decide +kernel
theorem dX1_putTransition_91 : decode cX1_putTransition 91 = .ok (.iaload, 1) := by decide +kernel
theorem dX1_putTransition_92 : decode cX1_putTransition 92 = .ok (.iload 5, 2) := by decide +kernel
theorem dX1_putTransition_94 : decode cX1_putTransition 94 = .ok (.invokestatic 31, 3) := by decide +kernel
theorem dX1_putTransition_97 : decode cX1_putTransition 97 = .ok (.ior, 1) := by decide +kernel
theorem dX1_putTransition_98 : decode cX1_putTransition 98 = .ok (.iastore, 1) := by decide +kernel
theorem dX1_putTransition_99 : decode cX1_putTransition 99 = .ok (.aload_n 0, 1) := by decide +kernel
theorem dX1_putTransition_100 : decode cX1_putTransition 100 = .ok (.dup, 1) := by decide +kernel
theorem dX1_putTransition_101 : decode cX1_putTransition 101 = .ok (.getfield 64, 3) := by decide +kernel
theorem dX1_putTransition_104 : decode cX1_putTransition 104 = .ok (.iconst 1, 1) := by decide +kernel
theorem dX1_putTransition_105 : decode cX1_putTransition 105 = .ok (.iadd, 1) := by decide +kernel
theorem dX1_putTransition_106 : decode cX1_putTransition 106 = .ok (.putfield 64, 3) := by decide +kernel
theorem dX1_putTransition_109 : decode cX1_putTransition 109 = .ok (.iload 5, 2) := by decide +kernel
theorem dX1_putTransition_111 : decode cX1_putTransition 111 = .ok (.ireturn, 1) := by decide +kernel
theorem dX1_filled_0 : decode cX1_filled 0 = .ok (.iload_n 1, 1) := by decide +kernel
theorem dX1_filled_1 : decode cX1_filled 1 = .ok (.istore_n 2, 1) := by decide +kernel
theorem dX1_filled_2 : decode cX1_filled 2 = .ok (.iconst 0, 1) := by decide +kernel
theorem dX1_filled_3 : decode cX1_filled 3 = .ok (.istore_n 3, 1) := by decide +kernel
theorem dX1_filled_4 : decode cX1_filled 4 = .ok (.iload_n 3, 1) := by decide +kernel
theorem dX1_filled_5 : decode cX1_filled 5 = .ok (.aload_n 0, 1) := by decide +kernel
theorem dX1_filled_6 : decode cX1_filled 6 = .ok (.getfield 27, 3) := by decide +kernel
theorem dX1_filled_9 : decode cX1_filled 9 = .ok (.if_icmp .ge 29, 3) := by decide +kernel
theorem dX1_filled_12 : decode cX1_filled 12 = .ok (.iload_n 2, 1) := by decide +kernel
theorem dX1_filled_13 : decode cX1_filled 13 = .ok (.iload_n 3, 1) := by decide +kernel
theorem dX1_filled_14 : decode cX1_filled 14 = .ok (.invokestatic 49, 3) := by decide +kernel
theorem dX1_filled_17 : decode cX1_filled 17 = .ok (.ifCond .eq 15, 3) := by decide +kernel
theorem dX1_filled_20 : decode cX1_filled 20 = .ok (.iload_n 2, 1) := by decide +kernel
theorem dX1_filled_21 : decode cX1_filled 21 = .ok (.aload_n 0, 1) := by decide +kernel
theorem dX1_filled_22 : decode cX1_filled 22 = .ok (.getfield 11, 3) := by decide +kernel
theorem dX1_filled_25 : decode cX1_filled 25 = .ok (.iload_n 3, 1) := by decide +kernel
theorem dX1_filled_26 : decode cX1_filled 26 = .ok (.aaload, 1) := by decide +kernel
theorem dX1_filled_27 : decode cX1_filled 27 = .ok (.getfield 92, 3) := by decide +kernel
theorem dX1_filled_30 : decode cX1_filled 30 = .ok (.ior, 1) := by decide +kernel
theorem dX1_filled_31 : decode cX1_filled 31 = .ok (.istore_n 2, 1) := by decide +kernel
theorem dX1_filled_32 : decode cX1_filled 32 = .ok (.iinc 3 1, 3) := by decide +kernel
theorem dX1_filled_35 : decode cX1_filled 35 = .ok (.goto (-31), 3) := by decide +kernel
theorem dX1_filled_38 : decode cX1_filled 38 = .ok (.iload_n 2, 1) := by decide +kernel
theorem dX1_filled_39 : decode cX1_filled 39 = .ok (.ireturn, 1) := by decide +kernel
theorem dX1_partsAside_0 : decode cX1_partsAside 0 = .ok (.aload_n 0, 1) := by decide +kernel
theorem dX1_partsAside_1 : decode cX1_partsAside 1 = .ok (.getfield 11, 3) := by decide +kernel
theorem dX1_partsAside_4 : decode cX1_partsAside 4 = .ok (.iload_n 1, 1) := by decide +kernel
theorem dX1_partsAside_5 : decode cX1_partsAside 5 = .ok (.aaload, 1) := by decide +kernel
theorem dX1_partsAside_6 : decode cX1_partsAside 6 = .ok (.getfield 101, 3) := by decide +kernel
theorem dX1_partsAside_9 : decode cX1_partsAside 9 = .ok (.iload_n 2, 1) := by decide +kernel
theorem dX1_partsAside_10 : decode cX1_partsAside 10 = .ok (.iconst (-1), 1) := by decide +kernel
theorem dX1_partsAside_11 : decode cX1_partsAside 11 = .ok (.ixor, 1) := by decide +kernel
theorem dX1_partsAside_12 : decode cX1_partsAside 12 = .ok (.iand, 1) := by decide +kernel
theorem dX1_partsAside_13 : decode cX1_partsAside 13 = .ok (.istore_n 3, 1) := by decide +kernel
theorem dX1_partsAside_14 : decode cX1_partsAside 14 = .ok (.iload_n 1, 1) := by decide +kernel
theorem dX1_partsAside_15 : decode cX1_partsAside 15 = .ok (.iconst 1, 1) := by decide +kernel
theorem dX1_partsAside_16 : decode cX1_partsAside 16 = .ok (.iadd, 1) := by decide +kernel
theorem dX1_partsAside_17 : decode cX1_partsAside 17 = .ok (.istore 4, 2) := by decide +kernel
theorem dX1_partsAside_19 : decode cX1_partsAside 19 = .ok (.iload 4, 2) := by decide +kernel
theorem dX1_partsAside_21 : decode cX1_partsAside 21 = .ok (.aload_n 0, 1) := by decide +kernel
theorem dX1_partsAside_22 : decode cX1_partsAside 22 = .ok (.getfield 27, 3) := by decide +kernel
theorem dX1_partsAside_25 : decode cX1_partsAside 25 = .ok (.if_icmp .ge 34, 3) := by decide +kernel
theorem dX1_partsAside_28 : decode cX1_partsAside 28 = .ok (.aload_n 0, 1) := by decide +kernel
theorem dX1_partsAside_29 : decode cX1_partsAside 29 = .ok (.getfield 11, 3) := by decide +kernel
theorem dX1_partsAside_32 : decode cX1_partsAside 32 = .ok (.iload 4, 2) := by decide +kernel
theorem dX1_partsAside_34 : decode cX1_partsAside 34 = .ok (.aaload, 1) := by decide +kernel
theorem dX1_partsAside_35 : decode cX1_partsAside 35 = .ok (.getfield 46, 3) := by decide +kernel
theorem dX1_partsAside_38 : decode cX1_partsAside 38 = .ok (.iload_n 2, 1) := by decide +kernel
theorem dX1_partsAside_39 : decode cX1_partsAside 39 = .ok (.iand, 1) := by decide +kernel
theorem dX1_partsAside_40 : decode cX1_partsAside 40 = .ok (.ifCond .eq 13, 3) := by decide +kernel
theorem dX1_partsAside_43 : decode cX1_partsAside 43 = .ok (.iload_n 3, 1) := by decide +kernel
theorem dX1_partsAside_44 : decode cX1_partsAside 44 = .ok (.iload 4, 2) := by decide +kernel
theorem dX1_partsAside_46 : decode cX1_partsAside 46 = .ok (.invokestatic 31, 3) := by decide +kernel
theorem dX1_partsAside_49 : decode cX1_partsAside 49 = .ok (.iconst (-1), 1) := by decide +kernel
theorem dX1_partsAside_50 : decode cX1_partsAside 50 = .ok (.ixor, 1) := by decide +kernel
theorem dX1_partsAside_51 : decode cX1_partsAside 51 = .ok (.iand, 1) := by decide +kernel
theorem dX1_partsAside_52 : decode cX1_partsAside 52 = .ok (.istore_n 3, 1) := by decide +kernel
theorem dX1_partsAside_53 : decode cX1_partsAside 53 = .ok (.iinc 4 1, 3) := by decide +kernel
theorem dX1_partsAside_56 : decode cX1_partsAside 56 = .ok (.goto (-37), 3) := by decide +kernel
theorem dX1_partsAside_59 : decode cX1_partsAside 59 = .ok (.iload_n 3, 1) := by decide +kernel
theorem dX1_partsAside_60 : decode cX1_partsAside 60 = .ok (.ireturn, 1) := by decide +kernel
theorem dX1_enteredInto_0 : decode cX1_enteredInto 0 = .ok (.iconst 0, 1) := by decide +kernel
theorem dX1_enteredInto_1 : decode cX1_enteredInto 1 = .ok (.istore_n 3, 1) := by decide +kernel
theorem dX1_enteredInto_2 : decode cX1_enteredInto 2 = .ok (.iload_n 1, 1) := by decide +kernel
theorem dX1_enteredInto_3 : decode cX1_enteredInto 3 = .ok (.istore 4, 2) := by decide +kernel
theorem dX1_enteredInto_5 : decode cX1_enteredInto 5 = .ok (.iload_n 2, 1) := by decide +kernel
theorem dX1_enteredInto_6 : decode cX1_enteredInto 6 = .ok (.iconst 1, 1) := by decide +kernel
theorem dX1_enteredInto_7 : decode cX1_enteredInto 7 = .ok (.iadd, 1) := by decide +kernel
theorem dX1_enteredInto_8 : decode cX1_enteredInto 8 = .ok (.istore 5, 2) := by decide +kernel
theorem dX1_enteredInto_10 : decode cX1_enteredInto 10 = .ok (.iload 5, 2) := by decide +kernel
theorem dX1_enteredInto_12 : decode cX1_enteredInto 12 = .ok (.aload_n 0, 1) := by decide +kernel
theorem dX1_enteredInto_13 : decode cX1_enteredInto 13 = .ok (.getfield 27, 3) := by decide +kernel
theorem dX1_enteredInto_16 : decode cX1_enteredInto 16 = .ok (.if_icmp .ge 75, 3) := by decide +kernel
theorem dX1_enteredInto_19 : decode cX1_enteredInto 19 = .ok (.aload_n 0, 1) := by decide +kernel
theorem dX1_enteredInto_20 : decode cX1_enteredInto 20 = .ok (.getfield 11, 3) := by decide +kernel
theorem dX1_enteredInto_23 : decode cX1_enteredInto 23 = .ok (.iload_n 2, 1) := by decide +kernel
theorem dX1_enteredInto_24 : decode cX1_enteredInto 24 = .ok (.aaload, 1) := by decide +kernel
theorem dX1_enteredInto_25 : decode cX1_enteredInto 25 = .ok (.getfield 46, 3) := by decide +kernel
theorem dX1_enteredInto_28 : decode cX1_enteredInto 28 = .ok (.iload 5, 2) := by decide +kernel
theorem dX1_enteredInto_30 : decode cX1_enteredInto 30 = .ok (.invokestatic 49, 3) := by decide +kernel
theorem dX1_enteredInto_33 : decode cX1_enteredInto 33 = .ok (.ifCond .eq 52, 3) := by decide +kernel
theorem dX1_enteredInto_36 : decode cX1_enteredInto 36 = .ok (.aload_n 0, 1) := by decide +kernel
theorem dX1_enteredInto_37 : decode cX1_enteredInto 37 = .ok (.getfield 11, 3) := by decide +kernel
theorem dX1_enteredInto_40 : decode cX1_enteredInto 40 = .ok (.iload 5, 2) := by decide +kernel
theorem dX1_enteredInto_42 : decode cX1_enteredInto 42 = .ok (.aaload, 1) := by decide +kernel
theorem dX1_enteredInto_43 : decode cX1_enteredInto 43 = .ok (.getfield 46, 3) := by decide +kernel
theorem dX1_enteredInto_46 : decode cX1_enteredInto 46 = .ok (.iload_n 1, 1) := by decide +kernel
theorem dX1_enteredInto_47 : decode cX1_enteredInto 47 = .ok (.iand, 1) := by decide +kernel
theorem dX1_enteredInto_48 : decode cX1_enteredInto 48 = .ok (.ifCond .eq 37, 3) := by decide +kernel
theorem dX1_enteredInto_51 : decode cX1_enteredInto 51 = .ok (.iload_n 3, 1) := by decide +kernel
theorem dX1_enteredInto_52 : decode cX1_enteredInto 52 = .ok (.iload 5, 2) := by decide +kernel
theorem dX1_enteredInto_54 : decode cX1_enteredInto 54 = .ok (.invokestatic 31, 3) := by decide +kernel
theorem dX1_enteredInto_57 : decode cX1_enteredInto 57 = .ok (.ior, 1) := by decide +kernel
theorem dX1_enteredInto_58 : decode cX1_enteredInto 58 = .ok (.istore_n 3, 1) := by decide +kernel
theorem dX1_enteredInto_59 : decode cX1_enteredInto 59 = .ok (.aload_n 0, 1) := by decide +kernel
theorem dX1_enteredInto_60 : decode cX1_enteredInto 60 = .ok (.getfield 11, 3) := by decide +kernel
theorem dX1_enteredInto_63 : decode cX1_enteredInto 63 = .ok (.iload 5, 2) := by decide +kernel
theorem dX1_enteredInto_65 : decode cX1_enteredInto 65 = .ok (.aaload, 1) := by decide +kernel
theorem dX1_enteredInto_66 : decode cX1_enteredInto 66 = .ok (.getfield 40, 3) := by decide +kernel
theorem dX1_enteredInto_69 : decode cX1_enteredInto 69 = .ok (.iconst 1, 1) := by decide +kernel
theorem dX1_enteredInto_70 : decode cX1_enteredInto 70 = .ok (.if_icmp .ne 15, 3) := by decide +kernel
theorem dX1_enteredInto_73 : decode cX1_enteredInto 73 = .ok (.iload 4, 2) := by decide +kernel
theorem dX1_enteredInto_75 : decode cX1_enteredInto 75 = .ok (.aload_n 0, 1) := by decide +kernel
theorem dX1_enteredInto_76 : decode cX1_enteredInto 76 = .ok (.iload 5, 2) := by decide +kernel
theorem dX1_enteredInto_78 : decode cX1_enteredInto 78 = .ok (.iload_n 1, 1) := by decide +kernel
theorem dX1_enteredInto_79 : decode cX1_enteredInto 79 = .ok (.invokevirtual 95, 3) := by decide +kernel
theorem dX1_enteredInto_82 : decode cX1_enteredInto 82 = .ok (.ior, 1) := by decide +kernel
theorem dX1_enteredInto_83 : decode cX1_enteredInto 83 = .ok (.istore 4, 2) := by decide +kernel
theorem dX1_enteredInto_85 : decode cX1_enteredInto 85 = .ok (.iinc 5 1, 3) := by decide +kernel
theorem dX1_enteredInto_88 : decode cX1_enteredInto 88 = .ok (.goto (-78), 3) := by decide +kernel
theorem dX1_enteredInto_91 : decode cX1_enteredInto 91 = .ok (.iload_n 3, 1) := by decide +kernel
theorem dX1_enteredInto_92 : decode cX1_enteredInto 92 = .ok (.aload_n 0, 1) := by decide +kernel
theorem dX1_enteredInto_93 : decode cX1_enteredInto 93 = .ok (.iload 4, 2) := by decide +kernel
theorem dX1_enteredInto_95 : decode cX1_enteredInto 95 = .ok (.invokevirtual 98, 3) := by decide +kernel
theorem dX1_enteredInto_98 : decode cX1_enteredInto 98 = .ok (.ior, 1) := by decide +kernel
theorem dX1_enteredInto_99 : decode cX1_enteredInto 99 = .ok (.ireturn, 1) := by decide +kernel
theorem dX1_endedAmong_0 : decode cX1_endedAmong 0 = .ok (.iconst 0, 1) := by decide +kernel
theorem dX1_endedAmong_1 : decode cX1_endedAmong 1 = .ok (.istore_n 2, 1) := by decide +kernel
theorem dX1_endedAmong_2 : decode cX1_endedAmong 2 = .ok (.aload_n 0, 1) := by decide +kernel
theorem dX1_endedAmong_3 : decode cX1_endedAmong 3 = .ok (.getfield 27, 3) := by decide +kernel
theorem dX1_endedAmong_6 : decode cX1_endedAmong 6 = .ok (.iconst 1, 1) := by decide +kernel
theorem dX1_endedAmong_7 : decode cX1_endedAmong 7 = .ok (.isub, 1) := by decide +kernel
theorem dX1_endedAmong_8 : decode cX1_endedAmong 8 = .ok (.istore_n 3, 1) := by decide +kernel
theorem dX1_endedAmong_9 : decode cX1_endedAmong 9 = .ok (.iload_n 3, 1) := by decide +kernel
theorem dX1_endedAmong_10 : decode cX1_endedAmong 10 = .ok (.ifCond .lt 102, 3) := by decide +kernel
theorem dX1_endedAmong_13 : decode cX1_endedAmong 13 = .ok (.aload_n 0, 1) := by decide +kernel
theorem dX1_endedAmong_14 : decode cX1_endedAmong 14 = .ok (.getfield 11, 3) := by decide +kernel
theorem dX1_endedAmong_17 : decode cX1_endedAmong 17 = .ok (.iload_n 3, 1) := by decide +kernel
theorem dX1_endedAmong_18 : decode cX1_endedAmong 18 = .ok (.aaload, 1) := by decide +kernel
theorem dX1_endedAmong_19 : decode cX1_endedAmong 19 = .ok (.getfield 101, 3) := by decide +kernel
theorem dX1_endedAmong_22 : decode cX1_endedAmong 22 = .ok (.istore 4, 2) := by decide +kernel
theorem dX1_endedAmong_24 : decode cX1_endedAmong 24 = .ok (.aload_n 0, 1) := by decide +kernel
theorem dX1_endedAmong_25 : decode cX1_endedAmong 25 = .ok (.getfield 11, 3) := by decide +kernel
theorem dX1_endedAmong_28 : decode cX1_endedAmong 28 = .ok (.iload_n 3, 1) := by decide +kernel
theorem dX1_endedAmong_29 : decode cX1_endedAmong 29 = .ok (.aaload, 1) := by decide +kernel
theorem dX1_endedAmong_30 : decode cX1_endedAmong 30 = .ok (.getfield 40, 3) := by decide +kernel
theorem dX1_endedAmong_33 : decode cX1_endedAmong 33 = .ok (.ifCond .ne 19, 3) := by decide +kernel
theorem dX1_endedAmong_36 : decode cX1_endedAmong 36 = .ok (.iload 4, 2) := by decide +kernel
theorem dX1_endedAmong_38 : decode cX1_endedAmong 38 = .ok (.aload_n 0, 1) := by decide +kernel
theorem dX1_endedAmong_39 : decode cX1_endedAmong 39 = .ok (.getfield 61, 3) := by decide +kernel
theorem dX1_endedAmong_42 : decode cX1_endedAmong 42 = .ok (.iand, 1) := by decide +kernel
theorem dX1_endedAmong_43 : decode cX1_endedAmong 43 = .ok (.iload_n 1, 1) := by decide +kernel
theorem dX1_endedAmong_44 : decode cX1_endedAmong 44 = .ok (.iand, 1) := by decide +kernel
theorem dX1_endedAmong_45 : decode cX1_endedAmong 45 = .ok (.ifCond .eq 7, 3) := by decide +kernel
theorem dX1_endedAmong_48 : decode cX1_endedAmong 48 = .ok (.iconst 1, 1) := by decide +kernel
theorem dX1_endedAmong_49 : decode cX1_endedAmong 49 = .ok (.goto 4, 3) := by decide +kernel
theorem dX1_endedAmong_52 : decode cX1_endedAmong 52 = .ok (.iconst 0, 1) := by decide +kernel
theorem dX1_endedAmong_53 : decode cX1_endedAmong 53 = .ok (.istore 5, 2) := by decide +kernel
theorem dX1_endedAmong_55 : decode cX1_endedAmong 55 = .ok (.aload_n 0, 1) := by decide +kernel
theorem dX1_endedAmong_56 : decode cX1_endedAmong 56 = .ok (.getfield 11, 3) := by decide +kernel
theorem dX1_endedAmong_59 : decode cX1_endedAmong 59 = .ok (.iload_n 3, 1) := by decide +kernel
theorem dX1_endedAmong_60 : decode cX1_endedAmong 60 = .ok (.aaload, 1) := by decide +kernel
theorem dX1_endedAmong_61 : decode cX1_endedAmong 61 = .ok (.getfield 40, 3) := by decide +kernel
theorem dX1_endedAmong_64 : decode cX1_endedAmong 64 = .ok (.iconst 1, 1) := by decide +kernel
theorem dX1_endedAmong_65 : decode cX1_endedAmong 65 = .ok (.if_icmp .ne 21, 3) := by decide +kernel
theorem dX1_endedAmong_68 : decode cX1_endedAmong 68 = .ok (.iload 4, 2) := by decide +kernel
theorem dX1_endedAmong_70 : decode cX1_endedAmong 70 = .ok (.ifCond .eq 16, 3) := by decide +kernel
theorem dX1_endedAmong_73 : decode cX1_endedAmong 73 = .ok (.iload 4, 2) := by decide +kernel
theorem dX1_endedAmong_75 : decode cX1_endedAmong 75 = .ok (.iload_n 2, 1) := by decide +kernel
theorem dX1_endedAmong_76 : decode cX1_endedAmong 76 = .ok (.iconst (-1), 1) := by decide +kernel
theorem dX1_endedAmong_77 : decode cX1_endedAmong 77 = .ok (.ixor, 1) := by decide +kernel
theorem dX1_endedAmong_78 : decode cX1_endedAmong 78 = .ok (.iand, 1) := by decide +kernel
theorem dX1_endedAmong_79 : decode cX1_endedAmong 79 = .ok (.ifCond .ne 7, 3) := by decide +kernel
theorem dX1_endedAmong_82 : decode cX1_endedAmong 82 = .ok (.iconst 1, 1) := by decide +kernel
theorem dX1_endedAmong_83 : decode cX1_endedAmong 83 = .ok (.goto 4, 3) := by decide +kernel
theorem dX1_endedAmong_86 : decode cX1_endedAmong 86 = .ok (.iconst 0, 1) := by decide +kernel
theorem dX1_endedAmong_87 : decode cX1_endedAmong 87 = .ok (.istore 6, 2) := by decide +kernel
theorem dX1_endedAmong_89 : decode cX1_endedAmong 89 = .ok (.iload 5, 2) := by decide +kernel
theorem dX1_endedAmong_91 : decode cX1_endedAmong 91 = .ok (.ifCond .ne 8, 3) := by decide +kernel
theorem dX1_endedAmong_94 : decode cX1_endedAmong 94 = .ok (.iload 6, 2) := by decide +kernel
theorem dX1_endedAmong_96 : decode cX1_endedAmong 96 = .ok (.ifCond .eq 10, 3) := by decide +kernel
theorem dX1_endedAmong_99 : decode cX1_endedAmong 99 = .ok (.iload_n 2, 1) := by decide +kernel
theorem dX1_endedAmong_100 : decode cX1_endedAmong 100 = .ok (.iload_n 3, 1) := by decide +kernel
theorem dX1_endedAmong_101 : decode cX1_endedAmong 101 = .ok (.invokestatic 31, 3) := by decide +kernel
theorem dX1_endedAmong_104 : decode cX1_endedAmong 104 = .ok (.ior, 1) := by decide +kernel
theorem dX1_endedAmong_105 : decode cX1_endedAmong 105 = .ok (.istore_n 2, 1) := by decide +kernel
theorem dX1_endedAmong_106 : decode cX1_endedAmong 106 = .ok (.iinc 3 (-1), 3) := by decide +kernel
theorem dX1_endedAmong_109 : decode cX1_endedAmong 109 = .ok (.goto (-100), 3) := by decide +kernel
theorem dX1_endedAmong_112 : decode cX1_endedAmong 112 = .ok (.iload_n 2, 1) := by decide +kernel
theorem dX1_endedAmong_113 : decode cX1_endedAmong 113 = .ok (.ireturn, 1) := by decide +kernel
theorem dX3_reset_0 : decode cX3_reset 0 = .ok (.aload_n 0, 1) := by decide +kernel
theorem dX3_reset_1 : decode cX3_reset 1 = .ok (.getfield 12, 3) := by decide +kernel
theorem dX3_reset_4 : decode cX3_reset 4 = .ok (.invokevirtual 32, 3) := by decide +kernel
theorem dX3_reset_7 : decode cX3_reset 7 = .ok (.iconst 0, 1) := by decide +kernel
theorem dX3_reset_8 : decode cX3_reset 8 = .ok (.istore_n 1, 1) := by decide +kernel
theorem dX3_reset_9 : decode cX3_reset 9 = .ok (.iload_n 1, 1) := by decide +kernel
theorem dX3_reset_10 : decode cX3_reset 10 = .ok (.aload_n 0, 1) := by decide +kernel
theorem dX3_reset_11 : decode cX3_reset 11 = .ok (.getfield 18, 3) := by decide +kernel
theorem dX3_reset_14 : decode cX3_reset 14 = .ok (.arraylength, 1) := by decide +kernel
theorem dX3_reset_15 : decode cX3_reset 15 = .ok (.if_icmp .ge 16, 3) := by decide +kernel
theorem dX3_reset_18 : decode cX3_reset 18 = .ok (.aload_n 0, 1) := by decide +kernel
theorem dX3_reset_19 : decode cX3_reset 19 = .ok (.getfield 18, 3) := by decide +kernel
theorem dX3_reset_22 : decode cX3_reset 22 = .ok (.iload_n 1, 1) := by decide +kernel
theorem dX3_reset_23 : decode cX3_reset 23 = .ok (.iconst 0, 1) := by decide +kernel
theorem dX3_reset_24 : decode cX3_reset 24 = .ok (.iastore, 1) := by decide +kernel
theorem dX3_reset_25 : decode cX3_reset 25 = .ok (.iinc 1 1, 3) := by decide +kernel
theorem dX3_reset_28 : decode cX3_reset 28 = .ok (.goto (-19), 3) := by decide +kernel
theorem dX3_reset_31 : decode cX3_reset 31 = .ok (.aload_n 0, 1) := by decide +kernel
theorem dX3_reset_32 : decode cX3_reset 32 = .ok (.iconst 0, 1) := by decide +kernel
theorem dX3_reset_33 : decode cX3_reset 33 = .ok (.putfield 35, 3) := by decide +kernel
theorem dX3_reset_36 : decode cX3_reset 36 = .ok (.aload_n 0, 1) := by decide +kernel
theorem dX3_reset_37 : decode cX3_reset 37 = .ok (.iconst 0, 1) := by decide +kernel
theorem dX3_reset_38 : decode cX3_reset 38 = .ok (.putfield 39, 3) := by decide +kernel
theorem dX3_reset_41 : decode cX3_reset 41 = .ok (.aload_n 0, 1) := by decide +kernel
theorem dX3_reset_42 : decode cX3_reset 42 = .ok (.iconst 0, 1) := by decide +kernel
theorem dX3_reset_43 : decode cX3_reset 43 = .ok (.putfield 42, 3) := by decide +kernel
theorem dX3_reset_46 : decode cX3_reset 46 = .ok (.aload_n 0, 1) := by decide +kernel
theorem dX3_reset_47 : decode cX3_reset 47 = .ok (.iconst 0, 1) := by decide +kernel
theorem dX3_reset_48 : decode cX3_reset 48 = .ok (.putfield 45, 3) := by decide +kernel
theorem dX3_reset_51 : decode cX3_reset 51 = .ok (.return_, 1) := by decide +kernel
theorem dX3_isAtEnd_0 : decode cX3_isAtEnd 0 = .ok (.aload_n 0, 1) := by decide +kernel
theorem dX3_isAtEnd_1 : decode cX3_isAtEnd 1 = .ok (.getfield 28, 3) := by decide +kernel
theorem dX3_isAtEnd_4 : decode cX3_isAtEnd 4 = .ok (.getfield 48, 3) := by decide +kernel
theorem dX3_isAtEnd_7 : decode cX3_isAtEnd 7 = .ok (.iconst 0, 1) := by decide +kernel
theorem dX3_isAtEnd_8 : decode cX3_isAtEnd 8 = .ok (.aaload, 1) := by decide +kernel
theorem dX3_isAtEnd_9 : decode cX3_isAtEnd 9 = .ok (.getfield 54, 3) := by decide +kernel
theorem dX3_isAtEnd_12 : decode cX3_isAtEnd 12 = .ok (.aload_n 0, 1) := by decide +kernel
theorem dX3_isAtEnd_13 : decode cX3_isAtEnd 13 = .ok (.getfield 28, 3) := by decide +kernel
theorem dX3_isAtEnd_16 : decode cX3_isAtEnd 16 = .ok (.getfield 59, 3) := by decide +kernel
theorem dX3_isAtEnd_19 : decode cX3_isAtEnd 19 = .ok (.iand, 1) := by decide +kernel
theorem dX3_isAtEnd_20 : decode cX3_isAtEnd 20 = .ok (.aload_n 0, 1) := by decide +kernel
theorem dX3_isAtEnd_21 : decode cX3_isAtEnd 21 = .ok (.getfield 12, 3) := by decide +kernel
theorem dX3_isAtEnd_24 : decode cX3_isAtEnd 24 = .ok (.getfield 62, 3) := by decide +kernel
theorem dX3_isAtEnd_27 : decode cX3_isAtEnd 27 = .ok (.iand, 1) := by decide +kernel
theorem dX3_isAtEnd_28 : decode cX3_isAtEnd 28 = .ok (.ifCond .eq 7, 3) := by decide +kernel
theorem dX3_isAtEnd_31 : decode cX3_isAtEnd 31 = .ok (.iconst 1, 1) := by decide +kernel
theorem dX3_isAtEnd_32 : decode cX3_isAtEnd 32 = .ok (.goto 4, 3) := by decide +kernel
theorem dX3_isAtEnd_35 : decode cX3_isAtEnd 35 = .ok (.iconst 0, 1) := by decide +kernel
theorem dX3_isAtEnd_36 : decode cX3_isAtEnd 36 = .ok (.ireturn, 1) := by decide +kernel
theorem dX3_growOlder_0 : decode cX3_growOlder 0 = .ok (.aload_n 0, 1) := by decide +kernel
theorem dX3_growOlder_1 : decode cX3_growOlder 1 = .ok (.dup, 1) := by decide +kernel
theorem dX3_growOlder_2 : decode cX3_growOlder 2 = .ok (.getfield 35, 3) := by decide +kernel
theorem dX3_growOlder_5 : decode cX3_growOlder 5 = .ok (.iconst 1, 1) := by decide +kernel
theorem dX3_growOlder_6 : decode cX3_growOlder 6 = .ok (.iadd, 1) := by decide +kernel
theorem dX3_growOlder_7 : decode cX3_growOlder 7 = .ok (.putfield 35, 3) := by decide +kernel
theorem dX3_growOlder_10 : decode cX3_growOlder 10 = .ok (.iconst 0, 1) := by decide +kernel
theorem dX3_growOlder_11 : decode cX3_growOlder 11 = .ok (.istore_n 1, 1) := by decide +kernel
theorem dX3_growOlder_12 : decode cX3_growOlder 12 = .ok (.iload_n 1, 1) := by decide +kernel
theorem dX3_growOlder_13 : decode cX3_growOlder 13 = .ok (.aload_n 0, 1) := by decide +kernel
theorem dX3_growOlder_14 : decode cX3_growOlder 14 = .ok (.getfield 28, 3) := by decide +kernel
theorem dX3_growOlder_17 : decode cX3_growOlder 17 = .ok (.getfield 86, 3) := by decide +kernel
theorem dX3_growOlder_20 : decode cX3_growOlder 20 = .ok (.if_icmp .ge 36, 3) := by decide +kernel
theorem dX3_growOlder_23 : decode cX3_growOlder 23 = .ok (.aload_n 0, 1) := by decide +kernel
theorem dX3_growOlder_24 : decode cX3_growOlder 24 = .ok (.getfield 12, 3) := by decide +kernel
theorem dX3_growOlder_27 : decode cX3_growOlder 27 = .ok (.getfield 62, 3) := by decide +kernel
theorem dX3_growOlder_30 : decode cX3_growOlder 30 = .ok (.iload_n 1, 1) := by decide +kernel
theorem dX3_growOlder_31 : decode cX3_growOlder 31 = .ok (.invokestatic 89, 3) := by decide +kernel
theorem dX3_growOlder_34 : decode cX3_growOlder 34 = .ok (.ifCond .eq 16, 3) := by decide +kernel
theorem dX3_growOlder_37 : decode cX3_growOlder 37 = .ok (.aload_n 0, 1) := by decide +kernel
theorem dX3_growOlder_38 : decode cX3_growOlder 38 = .ok (.getfield 12, 3) := by decide +kernel
theorem dX3_growOlder_41 : decode cX3_growOlder 41 = .ok (.getfield 93, 3) := by decide +kernel
theorem dX3_growOlder_44 : decode cX3_growOlder 44 = .ok (.iload_n 1, 1) := by decide +kernel
theorem dX3_growOlder_45 : decode cX3_growOlder 45 = .ok (.dup2, 1) := by decide +kernel
theorem dX3_growOlder_46 : decode cX3_growOlder 46 = .ok (.iaload, 1) := by decide +kernel
theorem dX3_growOlder_47 : decode cX3_growOlder 47 = .ok (.iconst 1, 1) := by decide +kernel
theorem dX3_growOlder_48 : decode cX3_growOlder 48 = .ok (.iadd, 1) := by decide +kernel
theorem dX3_growOlder_49 : decode cX3_growOlder 49 = .ok (.iastore, 1) := by decide +kernel
theorem dX3_growOlder_50 : decode cX3_growOlder 50 = .ok (.iinc 1 1, 3) := by decide +kernel
theorem dX3_growOlder_53 : decode cX3_growOlder 53 = .ok (.goto (-41), 3) := by decide +kernel
theorem dX3_growOlder_56 : decode cX3_growOlder 56 = .ok (.return_, 1) := by decide +kernel
theorem dX3_raise_0 : decode cX3_raise 0 = .ok (.aload_n 0, 1) := by decide +kernel
theorem dX3_raise_1 : decode cX3_raise 1 = .ok (.getfield 45, 3) := by decide +kernel
theorem dX3_raise_4 : decode cX3_raise 4 = .ok (.aload_n 0, 1) := by decide +kernel
theorem dX3_raise_5 : decode cX3_raise 5 = .ok (.getfield 22, 3) := by decide +kernel
theorem dX3_raise_8 : decode cX3_raise 8 = .ok (.arraylength, 1) := by decide +kernel
theorem dX3_raise_9 : decode cX3_raise 9 = .ok (.if_icmp .ge 26, 3) := by decide +kernel
theorem dX3_raise_12 : decode cX3_raise 12 = .ok (.aload_n 0, 1) := by decide +kernel
theorem dX3_raise_13 : decode cX3_raise 13 = .ok (.getfield 22, 3) := by decide +kernel
theorem dX3_raise_16 : decode cX3_raise 16 = .ok (.aload_n 0, 1) := by decide +kernel
theorem dX3_raise_17 : decode cX3_raise 17 = .ok (.getfield 45, 3) := by decide +kernel
theorem dX3_raise_20 : decode cX3_raise 20 = .ok (.iload_n 1, 1) := by decide +kernel
theorem dX3_raise_21 : decode cX3_raise 21 = .ok (.iastore, 1) := by decide +kernel
theorem dX3_raise_22 : decode cX3_raise 22 = .ok (.aload_n 0, 1) := by decide +kernel
theorem dX3_raise_23 : decode cX3_raise 23 = .ok (.dup, 1) := by decide +kernel
theorem dX3_raise_24 : decode cX3_raise 24 = .ok (.getfield 45, 3) := by decide +kernel
theorem dX3_raise_27 : decode cX3_raise 27 = .ok (.iconst 1, 1) := by decide +kernel
theorem dX3_raise_28 : decode cX3_raise 28 = .ok (.iadd, 1) := by decide +kernel
theorem dX3_raise_29 : decode cX3_raise 29 = .ok (.putfield 45, 3) := by decide +kernel
theorem dX3_raise_32 : decode cX3_raise 32 = .ok (.goto 13, 3) := by decide +kernel
theorem dX3_raise_35 : decode cX3_raise 35 = .ok (.aload_n 0, 1) := by decide +kernel
theorem dX3_raise_36 : decode cX3_raise 36 = .ok (.dup, 1) := by decide +kernel
theorem dX3_raise_37 : decode cX3_raise 37 = .ok (.getfield 39, 3) := by decide +kernel
theorem dX3_raise_40 : decode cX3_raise 40 = .ok (.iconst 1, 1) := by decide +kernel
theorem dX3_raise_41 : decode cX3_raise 41 = .ok (.iadd, 1) := by decide +kernel
theorem dX3_raise_42 : decode cX3_raise 42 = .ok (.putfield 39, 3) := by decide +kernel
theorem dX3_raise_45 : decode cX3_raise 45 = .ok (.return_, 1) := by decide +kernel
theorem dX3_loseQueue_0 : decode cX3_loseQueue 0 = .ok (.aload_n 0, 1) := by decide +kernel
theorem dX3_loseQueue_1 : decode cX3_loseQueue 1 = .ok (.dup, 1) := by decide +kernel
theorem dX3_loseQueue_2 : decode cX3_loseQueue 2 = .ok (.getfield 39, 3) := by decide +kernel
theorem dX3_loseQueue_5 : decode cX3_loseQueue 5 = .ok (.aload_n 0, 1) := by decide +kernel
theorem dX3_loseQueue_6 : decode cX3_loseQueue 6 = .ok (.getfield 45, 3) := by decide +kernel
theorem dX3_loseQueue_9 : decode cX3_loseQueue 9 = .ok (.iadd, 1) := by decide +kernel
theorem dX3_loseQueue_10 : decode cX3_loseQueue 10 = .ok (.putfield 39, 3) := by decide +kernel
theorem dX3_loseQueue_13 : decode cX3_loseQueue 13 = .ok (.aload_n 0, 1) := by decide +kernel
theorem dX3_loseQueue_14 : decode cX3_loseQueue 14 = .ok (.iconst 0, 1) := by decide +kernel
theorem dX3_loseQueue_15 : decode cX3_loseQueue 15 = .ok (.putfield 45, 3) := by decide +kernel
theorem dX3_loseQueue_18 : decode cX3_loseQueue 18 = .ok (.return_, 1) := by decide +kernel
theorem dX3_nextEvent_0 : decode cX3_nextEvent 0 = .ok (.aload_n 0, 1) := by decide +kernel
theorem dX3_nextEvent_1 : decode cX3_nextEvent 1 = .ok (.getfield 22, 3) := by decide +kernel
theorem dX3_nextEvent_4 : decode cX3_nextEvent 4 = .ok (.iconst 0, 1) := by decide +kernel
theorem dX3_nextEvent_5 : decode cX3_nextEvent 5 = .ok (.iaload, 1) := by decide +kernel
theorem dX3_nextEvent_6 : decode cX3_nextEvent 6 = .ok (.istore_n 1, 1) := by decide +kernel
theorem dX3_nextEvent_7 : decode cX3_nextEvent 7 = .ok (.iconst 1, 1) := by decide +kernel
theorem dX3_nextEvent_8 : decode cX3_nextEvent 8 = .ok (.istore_n 2, 1) := by decide +kernel
theorem dX3_nextEvent_9 : decode cX3_nextEvent 9 = .ok (.iload_n 2, 1) := by decide +kernel
theorem dX3_nextEvent_10 : decode cX3_nextEvent 10 = .ok (.aload_n 0, 1) := by decide +kernel
theorem dX3_nextEvent_11 : decode cX3_nextEvent 11 = .ok (.getfield 22, 3) := by decide +kernel
theorem dX3_nextEvent_14 : decode cX3_nextEvent 14 = .ok (.arraylength, 1) := by decide +kernel
theorem dX3_nextEvent_15 : decode cX3_nextEvent 15 = .ok (.if_icmp .ge 23, 3) := by decide +kernel
theorem dX3_nextEvent_18 : decode cX3_nextEvent 18 = .ok (.aload_n 0, 1) := by decide +kernel
theorem dX3_nextEvent_19 : decode cX3_nextEvent 19 = .ok (.getfield 22, 3) := by decide +kernel
theorem dX3_nextEvent_22 : decode cX3_nextEvent 22 = .ok (.iload_n 2, 1) := by decide +kernel
theorem dX3_nextEvent_23 : decode cX3_nextEvent 23 = .ok (.iconst 1, 1) := by decide +kernel
theorem dX3_nextEvent_24 : decode cX3_nextEvent 24 = .ok (.isub, 1) := by decide +kernel
theorem dX3_nextEvent_25 : decode cX3_nextEvent 25 = .ok (.aload_n 0, 1) := by decide +kernel
theorem dX3_nextEvent_26 : decode cX3_nextEvent 26 = .ok (.getfield 22, 3) := by decide +kernel
theorem dX3_nextEvent_29 : decode cX3_nextEvent 29 = .ok (.iload_n 2, 1) := by decide +kernel
theorem dX3_nextEvent_30 : decode cX3_nextEvent 30 = .ok (.iaload, 1) := by decide +kernel
theorem dX3_nextEvent_31 : decode cX3_nextEvent 31 = .ok (.iastore, 1) := by decide +kernel
theorem dX3_nextEvent_32 : decode cX3_nextEvent 32 = .ok (.iinc 2 1, 3) := by decide +kernel
theorem dX3_nextEvent_35 : decode cX3_nextEvent 35 = .ok (.goto (-26), 3) := by decide +kernel
theorem dX3_nextEvent_38 : decode cX3_nextEvent 38 = .ok (.aload_n 0, 1) := by decide +kernel
theorem dX3_nextEvent_39 : decode cX3_nextEvent 39 = .ok (.dup, 1) := by decide +kernel
theorem dX3_nextEvent_40 : decode cX3_nextEvent 40 = .ok (.getfield 45, 3) := by decide +kernel
theorem dX3_nextEvent_43 : decode cX3_nextEvent 43 = .ok (.iconst 1, 1) := by decide +kernel
theorem dX3_nextEvent_44 : decode cX3_nextEvent 44 = .ok (.isub, 1) := by decide +kernel
theorem dX3_nextEvent_45 : decode cX3_nextEvent 45 = .ok (.putfield 45, 3) := by decide +kernel
theorem dX3_nextEvent_48 : decode cX3_nextEvent 48 = .ok (.iload_n 1, 1) := by decide +kernel
theorem dX3_nextEvent_49 : decode cX3_nextEvent 49 = .ok (.ireturn, 1) := by decide +kernel
theorem dX3_isOpen_0 : decode cX3_isOpen 0 = .ok (.aload_n 0, 1) := by decide +kernel
theorem dX3_isOpen_1 : decode cX3_isOpen 1 = .ok (.getfield 12, 3) := by decide +kernel
theorem dX3_isOpen_4 : decode cX3_isOpen 4 = .ok (.getfield 62, 3) := by decide +kernel
theorem dX3_isOpen_7 : decode cX3_isOpen 7 = .ok (.aload_n 1, 1) := by decide +kernel
theorem dX3_isOpen_8 : decode cX3_isOpen 8 = .ok (.getfield 162, 3) := by decide +kernel
theorem dX3_isOpen_11 : decode cX3_isOpen 11 = .ok (.invokestatic 89, 3) := by decide +kernel
theorem dX3_isOpen_14 : decode cX3_isOpen 14 = .ok (.ifCond .eq 17, 3) := by decide +kernel
theorem dX3_isOpen_17 : decode cX3_isOpen 17 = .ok (.aload_n 1, 1) := by decide +kernel
theorem dX3_isOpen_18 : decode cX3_isOpen 18 = .ok (.aload_n 0, 1) := by decide +kernel
theorem dX3_isOpen_19 : decode cX3_isOpen 19 = .ok (.getfield 12, 3) := by decide +kernel
theorem dX3_isOpen_22 : decode cX3_isOpen 22 = .ok (.getfield 165, 3) := by decide +kernel
theorem dX3_isOpen_25 : decode cX3_isOpen 25 = .ok (.invokevirtual 168, 3) := by decide +kernel
theorem dX3_isOpen_28 : decode cX3_isOpen 28 = .ok (.ifCond .ne 5, 3) := by decide +kernel
theorem dX3_isOpen_31 : decode cX3_isOpen 31 = .ok (.iconst 0, 1) := by decide +kernel
theorem dX3_isOpen_32 : decode cX3_isOpen 32 = .ok (.ireturn, 1) := by decide +kernel
theorem dX3_isOpen_33 : decode cX3_isOpen 33 = .ok (.aload_n 1, 1) := by decide +kernel
theorem dX3_isOpen_34 : decode cX3_isOpen 34 = .ok (.getfield 172, 3) := by decide +kernel
theorem dX3_isOpen_37 : decode cX3_isOpen 37 = .ok (.lookupswitch 61 #[(1, 27), (2, 52)], 27) := by decide +kernel
theorem dX3_isOpen_64 : decode cX3_isOpen 64 = .ok (.aload_n 0, 1) := by decide +kernel
theorem dX3_isOpen_65 : decode cX3_isOpen 65 = .ok (.getfield 12, 3) := by decide +kernel
theorem dX3_isOpen_68 : decode cX3_isOpen 68 = .ok (.getfield 93, 3) := by decide +kernel
theorem dX3_isOpen_71 : decode cX3_isOpen 71 = .ok (.aload_n 1, 1) := by decide +kernel
theorem dX3_isOpen_72 : decode cX3_isOpen 72 = .ok (.getfield 162, 3) := by decide +kernel
theorem dX3_isOpen_75 : decode cX3_isOpen 75 = .ok (.iaload, 1) := by decide +kernel
theorem dX3_isOpen_76 : decode cX3_isOpen 76 = .ok (.aload_n 1, 1) := by decide +kernel
theorem dX3_isOpen_77 : decode cX3_isOpen 77 = .ok (.getfield 175, 3) := by decide +kernel
theorem dX3_isOpen_80 : decode cX3_isOpen 80 = .ok (.if_icmp .ne 7, 3) := by decide +kernel
theorem dX3_isOpen_83 : decode cX3_isOpen 83 = .ok (.iconst 1, 1) := by decide +kernel
theorem dX3_isOpen_84 : decode cX3_isOpen 84 = .ok (.goto 4, 3) := by decide +kernel
theorem dX3_isOpen_87 : decode cX3_isOpen 87 = .ok (.iconst 0, 1) := by decide +kernel
theorem dX3_isOpen_88 : decode cX3_isOpen 88 = .ok (.ireturn, 1) := by decide +kernel
theorem dX3_isOpen_89 : decode cX3_isOpen 89 = .ok (.iload_n 2, 1) := by decide +kernel
theorem dX3_isOpen_90 : decode cX3_isOpen 90 = .ok (.aload_n 1, 1) := by decide +kernel
theorem dX3_isOpen_91 : decode cX3_isOpen 91 = .ok (.getfield 162, 3) := by decide +kernel
theorem dX3_isOpen_94 : decode cX3_isOpen 94 = .ok (.invokestatic 89, 3) := by decide +kernel
theorem dX3_isOpen_97 : decode cX3_isOpen 97 = .ok (.ireturn, 1) := by decide +kernel
theorem dX3_isOpen_98 : decode cX3_isOpen 98 = .ok (.iconst 1, 1) := by decide +kernel
theorem dX3_isOpen_99 : decode cX3_isOpen 99 = .ok (.ireturn, 1) := by decide +kernel
theorem dX3_openBy_0 : decode cX3_openBy 0 = .ok (.aload_n 0, 1) := by decide +kernel
theorem dX3_openBy_1 : decode cX3_openBy 1 = .ok (.getfield 28, 3) := by decide +kernel
theorem dX3_openBy_4 : decode cX3_openBy 4 = .ok (.getfield 149, 3) := by decide +kernel
theorem dX3_openBy_7 : decode cX3_openBy 7 = .ok (.iload_n 1, 1) := by decide +kernel
theorem dX3_openBy_8 : decode cX3_openBy 8 = .ok (.iaload, 1) := by decide +kernel
theorem dX3_openBy_9 : decode cX3_openBy 9 = .ok (.istore_n 2, 1) := by decide +kernel
theorem dX3_openBy_10 : decode cX3_openBy 10 = .ok (.iload_n 2, 1) := by decide +kernel
theorem dX3_openBy_11 : decode cX3_openBy 11 = .ok (.ifCond .ne 5, 3) := by decide +kernel
theorem dX3_openBy_14 : decode cX3_openBy 14 = .ok (.iconst 0, 1) := by decide +kernel
theorem dX3_openBy_15 : decode cX3_openBy 15 = .ok (.ireturn, 1) := by decide +kernel
theorem dX3_openBy_16 : decode cX3_openBy 16 = .ok (.aload_n 0, 1) := by decide +kernel
theorem dX3_openBy_17 : decode cX3_openBy 17 = .ok (.getfield 28, 3) := by decide +kernel
theorem dX3_openBy_20 : decode cX3_openBy 20 = .ok (.aload_n 0, 1) := by decide +kernel
theorem dX3_openBy_21 : decode cX3_openBy 21 = .ok (.getfield 12, 3) := by decide +kernel
theorem dX3_openBy_24 : decode cX3_openBy 24 = .ok (.getfield 62, 3) := by decide +kernel
theorem dX3_openBy_27 : decode cX3_openBy 27 = .ok (.invokevirtual 152, 3) := by decide +kernel
theorem dX3_openBy_30 : decode cX3_openBy 30 = .ok (.istore_n 3, 1) := by decide +kernel
theorem dX3_openBy_31 : decode cX3_openBy 31 = .ok (.iconst 0, 1) := by decide +kernel
theorem dX3_openBy_32 : decode cX3_openBy 32 = .ok (.istore 4, 2) := by decide +kernel
theorem dX3_openBy_34 : decode cX3_openBy 34 = .ok (.iconst 0, 1) := by decide +kernel
theorem dX3_openBy_35 : decode cX3_openBy 35 = .ok (.istore 5, 2) := by decide +kernel
theorem dX3_openBy_37 : decode cX3_openBy 37 = .ok (.iload 5, 2) := by decide +kernel
theorem dX3_openBy_39 : decode cX3_openBy 39 = .ok (.aload_n 0, 1) := by decide +kernel
theorem dX3_openBy_40 : decode cX3_openBy 40 = .ok (.getfield 28, 3) := by decide +kernel
theorem dX3_openBy_43 : decode cX3_openBy 43 = .ok (.getfield 155, 3) := by decide +kernel
theorem dX3_openBy_46 : decode cX3_openBy 46 = .ok (.if_icmp .ge 46, 3) := by decide +kernel
theorem dX3_openBy_49 : decode cX3_openBy 49 = .ok (.iload_n 2, 1) := by decide +kernel
theorem dX3_openBy_50 : decode cX3_openBy 50 = .ok (.iload 5, 2) := by decide +kernel
theorem dX3_openBy_52 : decode cX3_openBy 52 = .ok (.invokestatic 89, 3) := by decide +kernel
theorem dX3_openBy_55 : decode cX3_openBy 55 = .ok (.ifCond .eq 31, 3) := by decide +kernel
theorem dX3_openBy_58 : decode cX3_openBy 58 = .ok (.aload_n 0, 1) := by decide +kernel
theorem dX3_openBy_59 : decode cX3_openBy 59 = .ok (.aload_n 0, 1) := by decide +kernel
theorem dX3_openBy_60 : decode cX3_openBy 60 = .ok (.getfield 28, 3) := by decide +kernel
theorem dX3_openBy_63 : decode cX3_openBy 63 = .ok (.getfield 106, 3) := by decide +kernel
theorem dX3_openBy_66 : decode cX3_openBy 66 = .ok (.iload 5, 2) := by decide +kernel
theorem dX3_openBy_68 : decode cX3_openBy 68 = .ok (.aaload, 1) := by decide +kernel
theorem dX3_openBy_69 : decode cX3_openBy 69 = .ok (.iload_n 3, 1) := by decide +kernel
theorem dX3_openBy_70 : decode cX3_openBy 70 = .ok (.invokevirtual 158, 3) := by decide +kernel
theorem dX3_openBy_73 : decode cX3_openBy 73 = .ok (.ifCond .eq 13, 3) := by decide +kernel
theorem dX3_openBy_76 : decode cX3_openBy 76 = .ok (.iload 4, 2) := by decide +kernel
theorem dX3_openBy_78 : decode cX3_openBy 78 = .ok (.iload 5, 2) := by decide +kernel
theorem dX3_openBy_80 : decode cX3_openBy 80 = .ok (.invokestatic 143, 3) := by decide +kernel
theorem dX3_openBy_83 : decode cX3_openBy 83 = .ok (.ior, 1) := by decide +kernel
theorem dX3_openBy_84 : decode cX3_openBy 84 = .ok (.istore 4, 2) := by decide +kernel
theorem dX3_openBy_86 : decode cX3_openBy 86 = .ok (.iinc 5 1, 3) := by decide +kernel
theorem dX3_openBy_89 : decode cX3_openBy 89 = .ok (.goto (-52), 3) := by decide +kernel
theorem dX3_openBy_92 : decode cX3_openBy 92 = .ok (.iload 4, 2) := by decide +kernel
theorem dX3_openBy_94 : decode cX3_openBy 94 = .ok (.ireturn, 1) := by decide +kernel
theorem dX3_smallestOf_0 : decode cX3_smallestOf 0 = .ok (.iload_n 0, 1) := by decide +kernel
theorem dX3_smallestOf_1 : decode cX3_smallestOf 1 = .ok (.iload_n 0, 1) := by decide +kernel
theorem dX3_smallestOf_2 : decode cX3_smallestOf 2 = .ok (.ineg, 1) := by decide +kernel
theorem dX3_smallestOf_3 : decode cX3_smallestOf 3 = .ok (.iand, 1) := by decide +kernel
theorem dX3_smallestOf_4 : decode cX3_smallestOf 4 = .ok (.iconst 1, 1) := by decide +kernel
theorem dX3_smallestOf_5 : decode cX3_smallestOf 5 = .ok (.isub, 1) := by decide +kernel
theorem dX3_smallestOf_6 : decode cX3_smallestOf 6 = .ok (.invokestatic 196, 3) := by decide +kernel
theorem dX3_smallestOf_9 : decode cX3_smallestOf 9 = .ok (.ireturn, 1) := by decide +kernel
theorem dX3_nearestOpen_0 : decode cX3_nearestOpen 0 = .ok (.iload_n 1, 1) := by decide +kernel
theorem dX3_nearestOpen_1 : decode cX3_nearestOpen 1 = .ok (.istore_n 3, 1) := by decide +kernel
theorem dX3_nearestOpen_2 : decode cX3_nearestOpen 2 = .ok (.iload_n 3, 1) := by decide +kernel
theorem dX3_nearestOpen_3 : decode cX3_nearestOpen 3 = .ok (.ifCond .lt 80, 3) := by decide +kernel
theorem dX3_nearestOpen_6 : decode cX3_nearestOpen 6 = .ok (.iload_n 3, 1) := by decide +kernel
theorem dX3_nearestOpen_7 : decode cX3_nearestOpen 7 = .ok (.iload_n 1, 1) := by decide +kernel
theorem dX3_nearestOpen_8 : decode cX3_nearestOpen 8 = .ok (.if_icmp .eq 22, 3) := by decide +kernel
theorem dX3_nearestOpen_11 : decode cX3_nearestOpen 11 = .ok (.aload_n 0, 1) := by decide +kernel
theorem dX3_nearestOpen_12 : decode cX3_nearestOpen 12 = .ok (.getfield 28, 3) := by decide +kernel
theorem dX3_nearestOpen_15 : decode cX3_nearestOpen 15 = .ok (.getfield 48, 3) := by decide +kernel
theorem dX3_nearestOpen_18 : decode cX3_nearestOpen 18 = .ok (.iload_n 3, 1) := by decide +kernel
theorem dX3_nearestOpen_19 : decode cX3_nearestOpen 19 = .ok (.aaload, 1) := by decide +kernel
theorem dX3_nearestOpen_20 : decode cX3_nearestOpen 20 = .ok (.getfield 187, 3) := by decide +kernel
theorem dX3_nearestOpen_23 : decode cX3_nearestOpen 23 = .ok (.iload_n 1, 1) := by decide +kernel
theorem dX3_nearestOpen_24 : decode cX3_nearestOpen 24 = .ok (.invokestatic 89, 3) := by decide +kernel
theorem dX3_nearestOpen_27 : decode cX3_nearestOpen 27 = .ok (.ifCond .eq 7, 3) := by decide +kernel
theorem dX3_nearestOpen_30 : decode cX3_nearestOpen 30 = .ok (.iconst 1, 1) := by decide +kernel
theorem dX3_nearestOpen_31 : decode cX3_nearestOpen 31 = .ok (.goto 4, 3) := by decide +kernel
theorem dX3_nearestOpen_34 : decode cX3_nearestOpen 34 = .ok (.iconst 0, 1) := by decide +kernel
theorem dX3_nearestOpen_35 : decode cX3_nearestOpen 35 = .ok (.istore 4, 2) := by decide +kernel
theorem dX3_nearestOpen_37 : decode cX3_nearestOpen 37 = .ok (.iload 4, 2) := by decide +kernel
theorem dX3_nearestOpen_39 : decode cX3_nearestOpen 39 = .ok (.ifCond .eq 38, 3) := by decide +kernel
theorem dX3_nearestOpen_42 : decode cX3_nearestOpen 42 = .ok (.aload_n 0, 1) := by decide +kernel
theorem dX3_nearestOpen_43 : decode cX3_nearestOpen 43 = .ok (.getfield 28, 3) := by decide +kernel
theorem dX3_nearestOpen_46 : decode cX3_nearestOpen 46 = .ok (.getfield 48, 3) := by decide +kernel
theorem dX3_nearestOpen_49 : decode cX3_nearestOpen 49 = .ok (.iload_n 3, 1) := by decide +kernel
theorem dX3_nearestOpen_50 : decode cX3_nearestOpen 50 = .ok (.aaload, 1) := by decide +kernel
theorem dX3_nearestOpen_51 : decode cX3_nearestOpen 51 = .ok (.getfield 190, 3) := by decide +kernel
theorem dX3_nearestOpen_54 : decode cX3_nearestOpen 54 = .ok (.iload_n 2, 1) := by decide +kernel
theorem dX3_nearestOpen_55 : decode cX3_nearestOpen 55 = .ok (.iand, 1) := by decide +kernel
theorem dX3_nearestOpen_56 : decode cX3_nearestOpen 56 = .ok (.ifCond .eq 21, 3) := by decide +kernel
theorem dX3_nearestOpen_59 : decode cX3_nearestOpen 59 = .ok (.aload_n 0, 1) := by decide +kernel
theorem dX3_nearestOpen_60 : decode cX3_nearestOpen 60 = .ok (.getfield 28, 3) := by decide +kernel
theorem dX3_nearestOpen_63 : decode cX3_nearestOpen 63 = .ok (.getfield 48, 3) := by decide +kernel
theorem dX3_nearestOpen_66 : decode cX3_nearestOpen 66 = .ok (.iload_n 3, 1) := by decide +kernel
theorem dX3_nearestOpen_67 : decode cX3_nearestOpen 67 = .ok (.aaload, 1) := by decide +kernel
theorem dX3_nearestOpen_68 : decode cX3_nearestOpen 68 = .ok (.getfield 190, 3) := by decide +kernel
theorem dX3_nearestOpen_71 : decode cX3_nearestOpen 71 = .ok (.iload_n 2, 1) := by decide +kernel
theorem dX3_nearestOpen_72 : decode cX3_nearestOpen 72 = .ok (.iand, 1) := by decide +kernel
theorem dX3_nearestOpen_73 : decode cX3_nearestOpen 73 = .ok (.invokestatic 193, 3) := by decide +kernel
theorem dX3_nearestOpen_76 : decode cX3_nearestOpen 76 = .ok (.ireturn, 1) := by decide +kernel
theorem dX3_nearestOpen_77 : decode cX3_nearestOpen 77 = .ok (.iinc 3 (-1), 3) := by decide +kernel
theorem dX3_nearestOpen_80 : decode cX3_nearestOpen 80 = .ok (.goto (-78), 3) := by decide +kernel
theorem dX3_nearestOpen_83 : decode cX3_nearestOpen 83 = .ok (.iconst (-1), 1) := by decide +kernel
theorem dX3_nearestOpen_84 : decode cX3_nearestOpen 84 = .ok (.ireturn, 1) := by decide +kernel
theorem dX3_leftBy_0 : decode cX3_leftBy 0 = .ok (.aload_n 1, 1) := by decide +kernel
theorem dX3_leftBy_1 : decode cX3_leftBy 1 = .ok (.getfield 130, 3) := by decide +kernel
theorem dX3_leftBy_4 : decode cX3_leftBy 4 = .ok (.iconst (-1), 1) := by decide +kernel
theorem dX3_leftBy_5 : decode cX3_leftBy 5 = .ok (.if_icmp .ne 7, 3) := by decide +kernel
theorem dX3_leftBy_8 : decode cX3_leftBy 8 = .ok (.iconst 0, 1) := by decide +kernel
theorem dX3_leftBy_9 : decode cX3_leftBy 9 = .ok (.goto 26, 3) := by decide +kernel
theorem dX3_leftBy_12 : decode cX3_leftBy 12 = .ok (.aload_n 0, 1) := by decide +kernel
theorem dX3_leftBy_13 : decode cX3_leftBy 13 = .ok (.getfield 28, 3) := by decide +kernel
theorem dX3_leftBy_16 : decode cX3_leftBy 16 = .ok (.getfield 48, 3) := by decide +kernel
theorem dX3_leftBy_19 : decode cX3_leftBy 19 = .ok (.aload_n 1, 1) := by decide +kernel
theorem dX3_leftBy_20 : decode cX3_leftBy 20 = .ok (.getfield 136, 3) := by decide +kernel
theorem dX3_leftBy_23 : decode cX3_leftBy 23 = .ok (.aaload, 1) := by decide +kernel
theorem dX3_leftBy_24 : decode cX3_leftBy 24 = .ok (.getfield 187, 3) := by decide +kernel
theorem dX3_leftBy_27 : decode cX3_leftBy 27 = .ok (.aload_n 0, 1) := by decide +kernel
theorem dX3_leftBy_28 : decode cX3_leftBy 28 = .ok (.getfield 12, 3) := by decide +kernel
theorem dX3_leftBy_31 : decode cX3_leftBy 31 = .ok (.getfield 62, 3) := by decide +kernel
theorem dX3_leftBy_34 : decode cX3_leftBy 34 = .ok (.iand, 1) := by decide +kernel
theorem dX3_leftBy_35 : decode cX3_leftBy 35 = .ok (.ireturn, 1) := by decide +kernel
theorem dX3_takeIfFree_0 : decode cX3_takeIfFree 0 = .ok (.aload_n 0, 1) := by decide +kernel
theorem dX3_takeIfFree_1 : decode cX3_takeIfFree 1 = .ok (.getfield 28, 3) := by decide +kernel
theorem dX3_takeIfFree_4 : decode cX3_takeIfFree 4 = .ok (.getfield 106, 3) := by decide +kernel
theorem dX3_takeIfFree_7 : decode cX3_takeIfFree 7 = .ok (.iload_n 1, 1) := by decide +kernel
theorem dX3_takeIfFree_8 : decode cX3_takeIfFree 8 = .ok (.aaload, 1) := by decide +kernel
theorem dX3_takeIfFree_9 : decode cX3_takeIfFree 9 = .ok (.astore_n 2, 1) := by decide +kernel
theorem dX3_takeIfFree_10 : decode cX3_takeIfFree 10 = .ok (.aload_n 0, 1) := by decide +kernel
theorem dX3_takeIfFree_11 : decode cX3_takeIfFree 11 = .ok (.aload_n 2, 1) := by decide +kernel
theorem dX3_takeIfFree_12 : decode cX3_takeIfFree 12 = .ok (.invokevirtual 110, 3) := by decide +kernel
theorem dX3_takeIfFree_15 : decode cX3_takeIfFree 15 = .ok (.istore_n 3, 1) := by decide +kernel
theorem dX3_takeIfFree_16 : decode cX3_takeIfFree 16 = .ok (.iconst 0, 1) := by decide +kernel
theorem dX3_takeIfFree_17 : decode cX3_takeIfFree 17 = .ok (.istore 4, 2) := by decide +kernel
theorem dX3_takeIfFree_19 : decode cX3_takeIfFree 19 = .ok (.iload 4, 2) := by decide +kernel
theorem dX3_takeIfFree_21 : decode cX3_takeIfFree 21 = .ok (.aload_n 0, 1) := by decide +kernel
theorem dX3_takeIfFree_22 : decode cX3_takeIfFree 22 = .ok (.getfield 103, 3) := by decide +kernel
theorem dX3_takeIfFree_25 : decode cX3_takeIfFree 25 = .ok (.if_icmp .ge 64, 3) := by decide +kernel
theorem dX3_takeIfFree_28 : decode cX3_takeIfFree 28 = .ok (.aload_n 0, 1) := by decide +kernel
theorem dX3_takeIfFree_29 : decode cX3_takeIfFree 29 = .ok (.getfield 28, 3) := by decide +kernel
theorem dX3_takeIfFree_32 : decode cX3_takeIfFree 32 = .ok (.getfield 106, 3) := by decide +kernel
theorem dX3_takeIfFree_35 : decode cX3_takeIfFree 35 = .ok (.aload_n 0, 1) := by decide +kernel
theorem dX3_takeIfFree_36 : decode cX3_takeIfFree 36 = .ok (.getfield 25, 3) := by decide +kernel
theorem dX3_takeIfFree_39 : decode cX3_takeIfFree 39 = .ok (.iload 4, 2) := by decide +kernel
theorem dX3_takeIfFree_41 : decode cX3_takeIfFree 41 = .ok (.iaload, 1) := by decide +kernel
theorem dX3_takeIfFree_42 : decode cX3_takeIfFree 42 = .ok (.aaload, 1) := by decide +kernel
theorem dX3_takeIfFree_43 : decode cX3_takeIfFree 43 = .ok (.astore 5, 2) := by decide +kernel
theorem dX3_takeIfFree_45 : decode cX3_takeIfFree 45 = .ok (.aload_n 0, 1) := by decide +kernel
theorem dX3_takeIfFree_46 : decode cX3_takeIfFree 46 = .ok (.aload 5, 2) := by decide +kernel
theorem dX3_takeIfFree_48 : decode cX3_takeIfFree 48 = .ok (.invokevirtual 110, 3) := by decide +kernel
theorem dX3_takeIfFree_51 : decode cX3_takeIfFree 51 = .ok (.iload_n 3, 1) := by decide +kernel
theorem dX3_takeIfFree_52 : decode cX3_takeIfFree 52 = .ok (.iand, 1) := by decide +kernel
theorem dX3_takeIfFree_53 : decode cX3_takeIfFree 53 = .ok (.ifCond .eq 30, 3) := by decide +kernel
theorem dX3_takeIfFree_56 : decode cX3_takeIfFree 56 = .ok (.aload_n 0, 1) := by decide +kernel
theorem dX3_takeIfFree_57 : decode cX3_takeIfFree 57 = .ok (.getfield 28, 3) := by decide +kernel
theorem dX3_takeIfFree_60 : decode cX3_takeIfFree 60 = .ok (.getfield 48, 3) := by decide +kernel
theorem dX3_takeIfFree_63 : decode cX3_takeIfFree 63 = .ok (.aload 5, 2) := by decide +kernel
theorem dX3_takeIfFree_65 : decode cX3_takeIfFree 65 = .ok (.getfield 162, 3) := by decide +kernel
theorem dX3_takeIfFree_68 : decode cX3_takeIfFree 68 = .ok (.aaload, 1) := by decide +kernel
theorem dX3_takeIfFree_69 : decode cX3_takeIfFree 69 = .ok (.getfield 187, 3) := by decide +kernel
theorem dX3_takeIfFree_72 : decode cX3_takeIfFree 72 = .ok (.aload_n 2, 1) := by decide +kernel
theorem dX3_takeIfFree_73 : decode cX3_takeIfFree 73 = .ok (.getfield 162, 3) := by decide +kernel
theorem dX3_takeIfFree_76 : decode cX3_takeIfFree 76 = .ok (.invokestatic 89, 3) := by decide +kernel
theorem dX3_takeIfFree_79 : decode cX3_takeIfFree 79 = .ok (.ifCond .ne 4, 3) := by decide +kernel
theorem dX3_takeIfFree_82 : decode cX3_takeIfFree 82 = .ok (.return_, 1) := by decide +kernel
theorem dX3_takeIfFree_83 : decode cX3_takeIfFree 83 = .ok (.iinc 4 1, 3) := by decide +kernel
theorem dX3_takeIfFree_86 : decode cX3_takeIfFree 86 = .ok (.goto (-67), 3) := by decide +kernel
theorem dX3_takeIfFree_89 : decode cX3_takeIfFree 89 = .ok (.iconst 0, 1) := by decide +kernel
theorem dX3_takeIfFree_90 : decode cX3_takeIfFree 90 = .ok (.istore 4, 2) := by decide +kernel
theorem dX3_takeIfFree_92 : decode cX3_takeIfFree 92 = .ok (.iconst 0, 1) := by decide +kernel
theorem dX3_takeIfFree_93 : decode cX3_takeIfFree 93 = .ok (.istore 5, 2) := by decide +kernel
theorem dX3_takeIfFree_95 : decode cX3_takeIfFree 95 = .ok (.iload 5, 2) := by decide +kernel
theorem dX3_takeIfFree_97 : decode cX3_takeIfFree 97 = .ok (.aload_n 0, 1) := by decide +kernel
theorem dX3_takeIfFree_98 : decode cX3_takeIfFree 98 = .ok (.getfield 103, 3) := by decide +kernel
theorem dX3_takeIfFree_101 : decode cX3_takeIfFree 101 = .ok (.if_icmp .ge 50, 3) := by decide +kernel
theorem dX3_takeIfFree_104 : decode cX3_takeIfFree 104 = .ok (.aload_n 0, 1) := by decide +kernel
theorem dX3_takeIfFree_105 : decode cX3_takeIfFree 105 = .ok (.aload_n 0, 1) := by decide +kernel
theorem dX3_takeIfFree_106 : decode cX3_takeIfFree 106 = .ok (.getfield 28, 3) := by decide +kernel
theorem dX3_takeIfFree_109 : decode cX3_takeIfFree 109 = .ok (.getfield 106, 3) := by decide +kernel
theorem dX3_takeIfFree_112 : decode cX3_takeIfFree 112 = .ok (.aload_n 0, 1) := by decide +kernel
theorem dX3_takeIfFree_113 : decode cX3_takeIfFree 113 = .ok (.getfield 25, 3) := by decide +kernel
theorem dX3_takeIfFree_116 : decode cX3_takeIfFree 116 = .ok (.iload 5, 2) := by decide +kernel
theorem dX3_takeIfFree_118 : decode cX3_takeIfFree 118 = .ok (.iaload, 1) := by decide +kernel
theorem dX3_takeIfFree_119 : decode cX3_takeIfFree 119 = .ok (.aaload, 1) := by decide +kernel
theorem dX3_takeIfFree_120 : decode cX3_takeIfFree 120 = .ok (.invokevirtual 110, 3) := by decide +kernel
theorem dX3_takeIfFree_123 : decode cX3_takeIfFree 123 = .ok (.iload_n 3, 1) := by decide +kernel
theorem dX3_takeIfFree_124 : decode cX3_takeIfFree 124 = .ok (.iand, 1) := by decide +kernel
theorem dX3_takeIfFree_125 : decode cX3_takeIfFree 125 = .ok (.ifCond .ne 20, 3) := by decide +kernel
theorem dX3_takeIfFree_128 : decode cX3_takeIfFree 128 = .ok (.aload_n 0, 1) := by decide +kernel
theorem dX3_takeIfFree_129 : decode cX3_takeIfFree 129 = .ok (.getfield 25, 3) := by decide +kernel
theorem dX3_takeIfFree_132 : decode cX3_takeIfFree 132 = .ok (.iload 4, 2) := by decide +kernel
theorem dX3_takeIfFree_134 : decode cX3_takeIfFree 134 = .ok (.aload_n 0, 1) := by decide +kernel
theorem dX3_takeIfFree_135 : decode cX3_takeIfFree 135 = .ok (.getfield 25, 3) := by decide +kernel
theorem dX3_takeIfFree_138 : decode cX3_takeIfFree 138 = .ok (.iload 5, 2) := by decide +kernel
theorem dX3_takeIfFree_140 : decode cX3_takeIfFree 140 = .ok (.iaload, 1) := by decide +kernel
theorem dX3_takeIfFree_141 : decode cX3_takeIfFree 141 = .ok (.iastore, 1) := by decide +kernel
theorem dX3_takeIfFree_142 : decode cX3_takeIfFree 142 = .ok (.iinc 4 1, 3) := by decide +kernel
theorem dX3_takeIfFree_145 : decode cX3_takeIfFree 145 = .ok (.iinc 5 1, 3) := by decide +kernel
theorem dX3_takeIfFree_148 : decode cX3_takeIfFree 148 = .ok (.goto (-53), 3) := by decide +kernel
theorem dX3_takeIfFree_151 : decode cX3_takeIfFree 151 = .ok (.aload_n 0, 1) := by decide +kernel
theorem dX3_takeIfFree_152 : decode cX3_takeIfFree 152 = .ok (.getfield 25, 3) := by decide +kernel
theorem dX3_takeIfFree_155 : decode cX3_takeIfFree 155 = .ok (.iload 4, 2) := by decide +kernel
theorem dX3_takeIfFree_157 : decode cX3_takeIfFree 157 = .ok (.iload_n 1, 1) := by decide +kernel
theorem dX3_takeIfFree_158 : decode cX3_takeIfFree 158 = .ok (.iastore, 1) := by decide +kernel
theorem dX3_takeIfFree_159 : decode cX3_takeIfFree 159 = .ok (.aload_n 0, 1) := by decide +kernel
theorem dX3_takeIfFree_160 : decode cX3_takeIfFree 160 = .ok (.iload 4, 2) := by decide +kernel
theorem dX3_takeIfFree_162 : decode cX3_takeIfFree 162 = .ok (.iconst 1, 1) := by decide +kernel
theorem dX3_takeIfFree_163 : decode cX3_takeIfFree 163 = .ok (.iadd, 1) := by decide +kernel
theorem dX3_takeIfFree_164 : decode cX3_takeIfFree 164 = .ok (.putfield 103, 3) := by decide +kernel
theorem dX3_takeIfFree_167 : decode cX3_takeIfFree 167 = .ok (.return_, 1) := by decide +kernel
theorem dX3_choose_0 : decode cX3_choose 0 = .ok (.aload_n 0, 1) := by decide +kernel
theorem dX3_choose_1 : decode cX3_choose 1 = .ok (.iconst 0, 1) := by decide +kernel
theorem dX3_choose_2 : decode cX3_choose 2 = .ok (.putfield 103, 3) := by decide +kernel
theorem dX3_choose_5 : decode cX3_choose 5 = .ok (.iconst 0, 1) := by decide +kernel
theorem dX3_choose_6 : decode cX3_choose 6 = .ok (.istore_n 2, 1) := by decide +kernel
theorem dX3_choose_7 : decode cX3_choose 7 = .ok (.aload_n 0, 1) := by decide +kernel
theorem dX3_choose_8 : decode cX3_choose 8 = .ok (.getfield 28, 3) := by decide +kernel
theorem dX3_choose_11 : decode cX3_choose 11 = .ok (.getfield 178, 3) := by decide +kernel
theorem dX3_choose_14 : decode cX3_choose 14 = .ok (.aload_n 0, 1) := by decide +kernel
theorem dX3_choose_15 : decode cX3_choose 15 = .ok (.getfield 12, 3) := by decide +kernel
theorem dX3_choose_18 : decode cX3_choose 18 = .ok (.getfield 62, 3) := by decide +kernel
theorem dX3_choose_21 : decode cX3_choose 21 = .ok (.iand, 1) := by decide +kernel
theorem dX3_choose_22 : decode cX3_choose 22 = .ok (.istore_n 3, 1) := by decide +kernel
theorem dX3_choose_23 : decode cX3_choose 23 = .ok (.iconst 0, 1) := by decide +kernel
theorem dX3_choose_24 : decode cX3_choose 24 = .ok (.istore 4, 2) := by decide +kernel
theorem dX3_choose_26 : decode cX3_choose 26 = .ok (.iload 4, 2) := by decide +kernel
theorem dX3_choose_28 : decode cX3_choose 28 = .ok (.aload_n 0, 1) := by decide +kernel
theorem dX3_choose_29 : decode cX3_choose 29 = .ok (.getfield 28, 3) := by decide +kernel
theorem dX3_choose_32 : decode cX3_choose 32 = .ok (.getfield 86, 3) := by decide +kernel
theorem dX3_choose_35 : decode cX3_choose 35 = .ok (.if_icmp .ge 60, 3) := by decide +kernel
theorem dX3_choose_38 : decode cX3_choose 38 = .ok (.iload_n 3, 1) := by decide +kernel
theorem dX3_choose_39 : decode cX3_choose 39 = .ok (.iload 4, 2) := by decide +kernel
theorem dX3_choose_41 : decode cX3_choose 41 = .ok (.invokestatic 89, 3) := by decide +kernel
theorem dX3_choose_44 : decode cX3_choose 44 = .ok (.ifCond .eq 13, 3) := by decide +kernel
theorem dX3_choose_47 : decode cX3_choose 47 = .ok (.aload_n 0, 1) := by decide +kernel
theorem dX3_choose_48 : decode cX3_choose 48 = .ok (.iload 4, 2) := by decide +kernel
theorem dX3_choose_50 : decode cX3_choose 50 = .ok (.iload_n 1, 1) := by decide +kernel
theorem dX3_choose_51 : decode cX3_choose 51 = .ok (.invokevirtual 181, 3) := by decide +kernel
theorem dX3_choose_54 : decode cX3_choose 54 = .ok (.goto 4, 3) := by decide +kernel
theorem dX3_choose_57 : decode cX3_choose 57 = .ok (.iconst (-1), 1) := by decide +kernel
theorem dX3_choose_58 : decode cX3_choose 58 = .ok (.istore 5, 2) := by decide +kernel
theorem dX3_choose_60 : decode cX3_choose 60 = .ok (.iload 5, 2) := by decide +kernel
theorem dX3_choose_62 : decode cX3_choose 62 = .ok (.iconst (-1), 1) := by decide +kernel
theorem dX3_choose_63 : decode cX3_choose 63 = .ok (.if_icmp .eq 26, 3) := by decide +kernel
theorem dX3_choose_66 : decode cX3_choose 66 = .ok (.iload_n 2, 1) := by decide +kernel
theorem dX3_choose_67 : decode cX3_choose 67 = .ok (.iload 5, 2) := by decide +kernel
theorem dX3_choose_69 : decode cX3_choose 69 = .ok (.invokestatic 89, 3) := by decide +kernel
theorem dX3_choose_72 : decode cX3_choose 72 = .ok (.ifCond .ne 17, 3) := by decide +kernel
theorem dX3_choose_75 : decode cX3_choose 75 = .ok (.iload_n 2, 1) := by decide +kernel
theorem dX3_choose_76 : decode cX3_choose 76 = .ok (.iload 5, 2) := by decide +kernel
theorem dX3_choose_78 : decode cX3_choose 78 = .ok (.invokestatic 143, 3) := by decide +kernel
theorem dX3_choose_81 : decode cX3_choose 81 = .ok (.ior, 1) := by decide +kernel
theorem dX3_choose_82 : decode cX3_choose 82 = .ok (.istore_n 2, 1) := by decide +kernel
theorem dX3_choose_83 : decode cX3_choose 83 = .ok (.aload_n 0, 1) := by decide +kernel
theorem dX3_choose_84 : decode cX3_choose 84 = .ok (.iload 5, 2) := by decide +kernel
theorem dX3_choose_86 : decode cX3_choose 86 = .ok (.invokevirtual 184, 3) := by decide +kernel
theorem dX3_choose_89 : decode cX3_choose 89 = .ok (.iinc 4 1, 3) := by decide +kernel
theorem dX3_choose_92 : decode cX3_choose 92 = .ok (.goto (-66), 3) := by decide +kernel
theorem dX3_choose_95 : decode cX3_choose 95 = .ok (.return_, 1) := by decide +kernel
theorem dX3_makeRecords_0 : decode cX3_makeRecords 0 = .ok (.iconst 0, 1) := by decide +kernel
theorem dX3_makeRecords_1 : decode cX3_makeRecords 1 = .ok (.istore_n 2, 1) := by decide +kernel
theorem dX3_makeRecords_2 : decode cX3_makeRecords 2 = .ok (.iload_n 2, 1) := by decide +kernel
theorem dX3_makeRecords_3 : decode cX3_makeRecords 3 = .ok (.aload_n 0, 1) := by decide +kernel
theorem dX3_makeRecords_4 : decode cX3_makeRecords 4 = .ok (.getfield 28, 3) := by decide +kernel
theorem dX3_makeRecords_7 : decode cX3_makeRecords 7 = .ok (.getfield 86, 3) := by decide +kernel
theorem dX3_makeRecords_10 : decode cX3_makeRecords 10 = .ok (.if_icmp .ge 101, 3) := by decide +kernel
theorem dX3_makeRecords_13 : decode cX3_makeRecords 13 = .ok (.aload_n 0, 1) := by decide +kernel
theorem dX3_makeRecords_14 : decode cX3_makeRecords 14 = .ok (.getfield 28, 3) := by decide +kernel
theorem dX3_makeRecords_17 : decode cX3_makeRecords 17 = .ok (.getfield 48, 3) := by decide +kernel
theorem dX3_makeRecords_20 : decode cX3_makeRecords 20 = .ok (.iload_n 2, 1) := by decide +kernel
theorem dX3_makeRecords_21 : decode cX3_makeRecords 21 = .ok (.aaload, 1) := by decide +kernel
theorem dX3_makeRecords_22 : decode cX3_makeRecords 22 = .ok (.astore_n 3, 1) := by decide +kernel
theorem dX3_makeRecords_23 : decode cX3_makeRecords 23 = .ok (.aload_n 3, 1) := by decide +kernel
theorem dX3_makeRecords_24 : decode cX3_makeRecords 24 = .ok (.invokevirtual 201, 3) := by decide +kernel
theorem dX3_makeRecords_27 : decode cX3_makeRecords 27 = .ok (.ifCond .eq 78, 3) := by decide +kernel
theorem dX3_makeRecords_30 : decode cX3_makeRecords 30 = .ok (.iload_n 1, 1) := by decide +kernel
theorem dX3_makeRecords_31 : decode cX3_makeRecords 31 = .ok (.aload_n 3, 1) := by decide +kernel
theorem dX3_makeRecords_32 : decode cX3_makeRecords 32 = .ok (.getfield 204, 3) := by decide +kernel
theorem dX3_makeRecords_35 : decode cX3_makeRecords 35 = .ok (.invokestatic 89, 3) := by decide +kernel
theorem dX3_makeRecords_38 : decode cX3_makeRecords 38 = .ok (.ifCond .eq 67, 3) := by decide +kernel
theorem dX3_makeRecords_41 : decode cX3_makeRecords 41 = .ok (.aload_n 0, 1) := by decide +kernel
theorem dX3_makeRecords_42 : decode cX3_makeRecords 42 = .ok (.getfield 28, 3) := by decide +kernel
theorem dX3_makeRecords_45 : decode cX3_makeRecords 45 = .ok (.getfield 48, 3) := by decide +kernel
theorem dX3_makeRecords_48 : decode cX3_makeRecords 48 = .ok (.aload_n 3, 1) := by decide +kernel
theorem dX3_makeRecords_49 : decode cX3_makeRecords 49 = .ok (.getfield 204, 3) := by decide +kernel
theorem dX3_makeRecords_52 : decode cX3_makeRecords 52 = .ok (.aaload, 1) := by decide +kernel
theorem dX3_makeRecords_53 : decode cX3_makeRecords 53 = .ok (.astore 4, 2) := by decide +kernel
theorem dX3_makeRecords_55 : decode cX3_makeRecords 55 = .ok (.aload_n 3, 1) := by decide +kernel
theorem dX3_makeRecords_56 : decode cX3_makeRecords 56 = .ok (.getfield 207, 3) := by decide +kernel
theorem dX3_makeRecords_59 : decode cX3_makeRecords 59 = .ok (.iconst 3, 1) := by decide +kernel
theorem dX3_makeRecords_60 : decode cX3_makeRecords 60 = .ok (.if_icmp .ne 11, 3) := by decide +kernel
theorem dX3_makeRecords_63 : decode cX3_makeRecords 63 = .ok (.aload 4, 2) := by decide +kernel
theorem dX3_makeRecords_65 : decode cX3_makeRecords 65 = .ok (.getfield 54, 3) := by decide +kernel
theorem dX3_makeRecords_68 : decode cX3_makeRecords 68 = .ok (.goto 16, 3) := by decide +kernel
theorem dX3_makeRecords_71 : decode cX3_makeRecords 71 = .ok (.aload 4, 2) := by decide +kernel
theorem dX3_makeRecords_73 : decode cX3_makeRecords 73 = .ok (.getfield 187, 3) := by decide +kernel
theorem dX3_makeRecords_76 : decode cX3_makeRecords 76 = .ok (.aload_n 0, 1) := by decide +kernel
theorem dX3_makeRecords_77 : decode cX3_makeRecords 77 = .ok (.getfield 28, 3) := by decide +kernel
theorem dX3_makeRecords_80 : decode cX3_makeRecords 80 = .ok (.getfield 178, 3) := by decide +kernel
theorem dX3_makeRecords_83 : decode cX3_makeRecords 83 = .ok (.iand, 1) := by decide +kernel
theorem dX3_makeRecords_84 : decode cX3_makeRecords 84 = .ok (.istore 5, 2) := by decide +kernel
theorem dX3_makeRecords_86 : decode cX3_makeRecords 86 = .ok (.aload_n 0, 1) := by decide +kernel
theorem dX3_makeRecords_87 : decode cX3_makeRecords 87 = .ok (.getfield 12, 3) := by decide +kernel
theorem dX3_makeRecords_90 : decode cX3_makeRecords 90 = .ok (.getfield 210, 3) := by decide +kernel
theorem dX3_makeRecords_93 : decode cX3_makeRecords 93 = .ok (.iload_n 2, 1) := by decide +kernel
theorem dX3_makeRecords_94 : decode cX3_makeRecords 94 = .ok (.iload 5, 2) := by decide +kernel
theorem dX3_makeRecords_96 : decode cX3_makeRecords 96 = .ok (.aload_n 0, 1) := by decide +kernel
theorem dX3_makeRecords_97 : decode cX3_makeRecords 97 = .ok (.getfield 12, 3) := by decide +kernel
theorem dX3_makeRecords_100 : decode cX3_makeRecords 100 = .ok (.getfield 62, 3) := by decide +kernel
theorem dX3_makeRecords_103 : decode cX3_makeRecords 103 = .ok (.iand, 1) := by decide +kernel
theorem dX3_makeRecords_104 : decode cX3_makeRecords 104 = .ok (.iastore, 1) := by decide +kernel
theorem dX3_makeRecords_105 : decode cX3_makeRecords 105 = .ok (.iinc 2 1, 3) := by decide +kernel
theorem dX3_makeRecords_108 : decode cX3_makeRecords 108 = .ok (.goto (-106), 3) := by decide +kernel
theorem dX3_makeRecords_111 : decode cX3_makeRecords 111 = .ok (.return_, 1) := by decide +kernel
theorem dX3_act_0 : decode cX3_act 0 = .ok (.aload_n 1, 1) := by decide +kernel
theorem dX3_act_1 : decode cX3_act 1 = .ok (.getfield 222, 3) := by decide +kernel
theorem dX3_act_4 : decode cX3_act 4 = .ok (.tableswitch 76 1 3 #[28, 47, 65], 28) := by decide +kernel
theorem dX3_act_32 : decode cX3_act 32 = .ok (.aload_n 0, 1) := by decide +kernel
theorem dX3_act_33 : decode cX3_act 33 = .ok (.getfield 12, 3) := by decide +kernel
theorem dX3_act_36 : decode cX3_act 36 = .ok (.getfield 165, 3) := by decide +kernel
theorem dX3_act_39 : decode cX3_act 39 = .ok (.aload_n 1, 1) := by decide +kernel
theorem dX3_act_40 : decode cX3_act 40 = .ok (.getfield 227, 3) := by decide +kernel
theorem dX3_act_43 : decode cX3_act 43 = .ok (.aload_n 1, 1) := by decide +kernel
theorem dX3_act_44 : decode cX3_act 44 = .ok (.getfield 230, 3) := by decide +kernel
theorem dX3_act_47 : decode cX3_act 47 = .ok (.iastore, 1) := by decide +kernel
theorem dX3_act_48 : decode cX3_act 48 = .ok (.goto 32, 3) := by decide +kernel
theorem dX3_act_51 : decode cX3_act 51 = .ok (.aload_n 0, 1) := by decide +kernel
theorem dX3_act_52 : decode cX3_act 52 = .ok (.getfield 12, 3) := by decide +kernel
theorem dX3_act_55 : decode cX3_act 55 = .ok (.aload_n 1, 1) := by decide +kernel
theorem dX3_act_56 : decode cX3_act 56 = .ok (.getfield 227, 3) := by decide +kernel
theorem dX3_act_59 : decode cX3_act 59 = .ok (.aload_n 1, 1) := by decide +kernel
theorem dX3_act_60 : decode cX3_act 60 = .ok (.getfield 230, 3) := by decide +kernel
theorem dX3_act_63 : decode cX3_act 63 = .ok (.invokevirtual 231, 3) := by decide +kernel
theorem dX3_act_66 : decode cX3_act 66 = .ok (.goto 14, 3) := by decide +kernel
theorem dX3_act_69 : decode cX3_act 69 = .ok (.aload_n 0, 1) := by decide +kernel
theorem dX3_act_70 : decode cX3_act 70 = .ok (.aload_n 1, 1) := by decide +kernel
theorem dX3_act_71 : decode cX3_act 71 = .ok (.getfield 227, 3) := by decide +kernel
theorem dX3_act_74 : decode cX3_act 74 = .ok (.invokevirtual 235, 3) := by decide +kernel
theorem dX3_act_77 : decode cX3_act 77 = .ok (.goto 3, 3) := by decide +kernel
theorem dX3_act_80 : decode cX3_act 80 = .ok (.return_, 1) := by decide +kernel
theorem dX3_leave_0 : decode cX3_leave 0 = .ok (.aload_n 0, 1) := by decide +kernel
theorem dX3_leave_1 : decode cX3_leave 1 = .ok (.getfield 28, 3) := by decide +kernel
theorem dX3_leave_4 : decode cX3_leave 4 = .ok (.getfield 86, 3) := by decide +kernel
theorem dX3_leave_7 : decode cX3_leave 7 = .ok (.iconst 1, 1) := by decide +kernel
theorem dX3_leave_8 : decode cX3_leave 8 = .ok (.isub, 1) := by decide +kernel
theorem dX3_leave_9 : decode cX3_leave 9 = .ok (.istore_n 2, 1) := by decide +kernel
theorem dX3_leave_10 : decode cX3_leave 10 = .ok (.iload_n 2, 1) := by decide +kernel
theorem dX3_leave_11 : decode cX3_leave 11 = .ok (.ifCond .lt 61, 3) := by decide +kernel
theorem dX3_leave_14 : decode cX3_leave 14 = .ok (.iload_n 1, 1) := by decide +kernel
theorem dX3_leave_15 : decode cX3_leave 15 = .ok (.iload_n 2, 1) := by decide +kernel
theorem dX3_leave_16 : decode cX3_leave 16 = .ok (.invokestatic 89, 3) := by decide +kernel
theorem dX3_leave_19 : decode cX3_leave 19 = .ok (.ifCond .eq 47, 3) := by decide +kernel
theorem dX3_leave_22 : decode cX3_leave 22 = .ok (.aload_n 0, 1) := by decide +kernel
theorem dX3_leave_23 : decode cX3_leave 23 = .ok (.getfield 12, 3) := by decide +kernel
theorem dX3_leave_26 : decode cX3_leave 26 = .ok (.dup, 1) := by decide +kernel
theorem dX3_leave_27 : decode cX3_leave 27 = .ok (.getfield 62, 3) := by decide +kernel
theorem dX3_leave_30 : decode cX3_leave 30 = .ok (.iload_n 2, 1) := by decide +kernel
theorem dX3_leave_31 : decode cX3_leave 31 = .ok (.invokestatic 143, 3) := by decide +kernel
theorem dX3_leave_34 : decode cX3_leave 34 = .ok (.iconst (-1), 1) := by decide +kernel
theorem dX3_leave_35 : decode cX3_leave 35 = .ok (.ixor, 1) := by decide +kernel
theorem dX3_leave_36 : decode cX3_leave 36 = .ok (.iand, 1) := by decide +kernel
theorem dX3_leave_37 : decode cX3_leave 37 = .ok (.putfield 62, 3) := by decide +kernel
theorem dX3_leave_40 : decode cX3_leave 40 = .ok (.aload_n 0, 1) := by decide +kernel
theorem dX3_leave_41 : decode cX3_leave 41 = .ok (.getfield 12, 3) := by decide +kernel
theorem dX3_leave_44 : decode cX3_leave 44 = .ok (.getfield 93, 3) := by decide +kernel
theorem dX3_leave_47 : decode cX3_leave 47 = .ok (.iload_n 2, 1) := by decide +kernel
theorem dX3_leave_48 : decode cX3_leave 48 = .ok (.iconst (-1), 1) := by decide +kernel
theorem dX3_leave_49 : decode cX3_leave 49 = .ok (.iastore, 1) := by decide +kernel
theorem dX3_leave_50 : decode cX3_leave 50 = .ok (.aload_n 0, 1) := by decide +kernel
theorem dX3_leave_51 : decode cX3_leave 51 = .ok (.aload_n 0, 1) := by decide +kernel
theorem dX3_leave_52 : decode cX3_leave 52 = .ok (.getfield 28, 3) := by decide +kernel
theorem dX3_leave_55 : decode cX3_leave 55 = .ok (.getfield 48, 3) := by decide +kernel
theorem dX3_leave_58 : decode cX3_leave 58 = .ok (.iload_n 2, 1) := by decide +kernel
theorem dX3_leave_59 : decode cX3_leave 59 = .ok (.aaload, 1) := by decide +kernel
theorem dX3_leave_60 : decode cX3_leave 60 = .ok (.getfield 213, 3) := by decide +kernel
theorem dX3_leave_63 : decode cX3_leave 63 = .ok (.invokevirtual 126, 3) := by decide +kernel
theorem dX3_leave_66 : decode cX3_leave 66 = .ok (.iinc 2 (-1), 3) := by decide +kernel
theorem dX3_leave_69 : decode cX3_leave 69 = .ok (.goto (-59), 3) := by decide +kernel
theorem dX3_leave_72 : decode cX3_leave 72 = .ok (.return_, 1) := by decide +kernel
theorem dX3_enter_0 : decode cX3_enter 0 = .ok (.iconst 0, 1) := by decide +kernel
theorem dX3_enter_1 : decode cX3_enter 1 = .ok (.istore_n 2, 1) := by decide +kernel
theorem dX3_enter_2 : decode cX3_enter 2 = .ok (.iload_n 2, 1) := by decide +kernel
theorem dX3_enter_3 : decode cX3_enter 3 = .ok (.aload_n 0, 1) := by decide +kernel
theorem dX3_enter_4 : decode cX3_enter 4 = .ok (.getfield 28, 3) := by decide +kernel
theorem dX3_enter_7 : decode cX3_enter 7 = .ok (.getfield 86, 3) := by decide +kernel
theorem dX3_enter_10 : decode cX3_enter 10 = .ok (.if_icmp .ge 59, 3) := by decide +kernel
theorem dX3_enter_13 : decode cX3_enter 13 = .ok (.iload_n 1, 1) := by decide +kernel
theorem dX3_enter_14 : decode cX3_enter 14 = .ok (.iload_n 2, 1) := by decide +kernel
theorem dX3_enter_15 : decode cX3_enter 15 = .ok (.invokestatic 89, 3) := by decide +kernel
theorem dX3_enter_18 : decode cX3_enter 18 = .ok (.ifCond .eq 45, 3) := by decide +kernel
theorem dX3_enter_21 : decode cX3_enter 21 = .ok (.aload_n 0, 1) := by decide +kernel
theorem dX3_enter_22 : decode cX3_enter 22 = .ok (.getfield 12, 3) := by decide +kernel
theorem dX3_enter_25 : decode cX3_enter 25 = .ok (.dup, 1) := by decide +kernel
theorem dX3_enter_26 : decode cX3_enter 26 = .ok (.getfield 62, 3) := by decide +kernel
theorem dX3_enter_29 : decode cX3_enter 29 = .ok (.iload_n 2, 1) := by decide +kernel
theorem dX3_enter_30 : decode cX3_enter 30 = .ok (.invokestatic 143, 3) := by decide +kernel
theorem dX3_enter_33 : decode cX3_enter 33 = .ok (.ior, 1) := by decide +kernel
theorem dX3_enter_34 : decode cX3_enter 34 = .ok (.putfield 62, 3) := by decide +kernel
theorem dX3_enter_37 : decode cX3_enter 37 = .ok (.aload_n 0, 1) := by decide +kernel
theorem dX3_enter_38 : decode cX3_enter 38 = .ok (.getfield 12, 3) := by decide +kernel
theorem dX3_enter_41 : decode cX3_enter 41 = .ok (.getfield 93, 3) := by decide +kernel
theorem dX3_enter_44 : decode cX3_enter 44 = .ok (.iload_n 2, 1) := by decide +kernel
theorem dX3_enter_45 : decode cX3_enter 45 = .ok (.iconst 0, 1) := by decide +kernel
theorem dX3_enter_46 : decode cX3_enter 46 = .ok (.iastore, 1) := by decide +kernel
theorem dX3_enter_47 : decode cX3_enter 47 = .ok (.aload_n 0, 1) := by decide +kernel
theorem dX3_enter_48 : decode cX3_enter 48 = .ok (.aload_n 0, 1) := by decide +kernel
theorem dX3_enter_49 : decode cX3_enter 49 = .ok (.getfield 28, 3) := by decide +kernel
theorem dX3_enter_52 : decode cX3_enter 52 = .ok (.getfield 48, 3) := by decide +kernel
theorem dX3_enter_55 : decode cX3_enter 55 = .ok (.iload_n 2, 1) := by decide +kernel
theorem dX3_enter_56 : decode cX3_enter 56 = .ok (.aaload, 1) := by decide +kernel
theorem dX3_enter_57 : decode cX3_enter 57 = .ok (.getfield 216, 3) := by decide +kernel
theorem dX3_enter_60 : decode cX3_enter 60 = .ok (.invokevirtual 126, 3) := by decide +kernel
theorem dX3_enter_63 : decode cX3_enter 63 = .ok (.iinc 2 1, 3) := by decide +kernel
theorem dX3_enter_66 : decode cX3_enter 66 = .ok (.goto (-64), 3) := by decide +kernel
theorem dX3_enter_69 : decode cX3_enter 69 = .ok (.return_, 1) := by decide +kernel
theorem dX3_targetsOf_0 : decode cX3_targetsOf 0 = .ok (.aload_n 0, 1) := by decide +kernel
theorem dX3_targetsOf_1 : decode cX3_targetsOf 1 = .ok (.getfield 28, 3) := by decide +kernel
theorem dX3_targetsOf_4 : decode cX3_targetsOf 4 = .ok (.getfield 48, 3) := by decide +kernel
theorem dX3_targetsOf_7 : decode cX3_targetsOf 7 = .ok (.aload_n 1, 1) := by decide +kernel
theorem dX3_targetsOf_8 : decode cX3_targetsOf 8 = .ok (.getfield 130, 3) := by decide +kernel
theorem dX3_targetsOf_11 : decode cX3_targetsOf 11 = .ok (.aaload, 1) := by decide +kernel
theorem dX3_targetsOf_12 : decode cX3_targetsOf 12 = .ok (.invokevirtual 201, 3) := by decide +kernel
theorem dX3_targetsOf_15 : decode cX3_targetsOf 15 = .ok (.ifCond .ne 11, 3) := by decide +kernel
theorem dX3_targetsOf_18 : decode cX3_targetsOf 18 = .ok (.aload_n 1, 1) := by decide +kernel
theorem dX3_targetsOf_19 : decode cX3_targetsOf 19 = .ok (.getfield 130, 3) := by decide +kernel
theorem dX3_targetsOf_22 : decode cX3_targetsOf 22 = .ok (.invokestatic 143, 3) := by decide +kernel
theorem dX3_targetsOf_25 : decode cX3_targetsOf 25 = .ok (.ireturn, 1) := by decide +kernel
theorem dX3_targetsOf_26 : decode cX3_targetsOf 26 = .ok (.aload_n 0, 1) := by decide +kernel
theorem dX3_targetsOf_27 : decode cX3_targetsOf 27 = .ok (.getfield 12, 3) := by decide +kernel
theorem dX3_targetsOf_30 : decode cX3_targetsOf 30 = .ok (.getfield 210, 3) := by decide +kernel
theorem dX3_targetsOf_33 : decode cX3_targetsOf 33 = .ok (.aload_n 1, 1) := by decide +kernel
theorem dX3_targetsOf_34 : decode cX3_targetsOf 34 = .ok (.getfield 130, 3) := by decide +kernel
theorem dX3_targetsOf_37 : decode cX3_targetsOf 37 = .ok (.iaload, 1) := by decide +kernel
theorem dX3_targetsOf_38 : decode cX3_targetsOf 38 = .ok (.ifCond .eq 16, 3) := by decide +kernel
theorem dX3_targetsOf_41 : decode cX3_targetsOf 41 = .ok (.aload_n 0, 1) := by decide +kernel
theorem dX3_targetsOf_42 : decode cX3_targetsOf 42 = .ok (.getfield 12, 3) := by decide +kernel
theorem dX3_targetsOf_45 : decode cX3_targetsOf 45 = .ok (.getfield 210, 3) := by decide +kernel
theorem dX3_targetsOf_48 : decode cX3_targetsOf 48 = .ok (.aload_n 1, 1) := by decide +kernel
theorem dX3_targetsOf_49 : decode cX3_targetsOf 49 = .ok (.getfield 130, 3) := by decide +kernel
theorem dX3_targetsOf_52 : decode cX3_targetsOf 52 = .ok (.iaload, 1) := by decide +kernel
theorem dX3_targetsOf_53 : decode cX3_targetsOf 53 = .ok (.ireturn, 1) := by decide +kernel
theorem dX3_targetsOf_54 : decode cX3_targetsOf 54 = .ok (.aload_n 0, 1) := by decide +kernel
theorem dX3_targetsOf_55 : decode cX3_targetsOf 55 = .ok (.getfield 28, 3) := by decide +kernel
theorem dX3_targetsOf_58 : decode cX3_targetsOf 58 = .ok (.getfield 48, 3) := by decide +kernel
theorem dX3_targetsOf_61 : decode cX3_targetsOf 61 = .ok (.aload_n 1, 1) := by decide +kernel
theorem dX3_targetsOf_62 : decode cX3_targetsOf 62 = .ok (.getfield 130, 3) := by decide +kernel
theorem dX3_targetsOf_65 : decode cX3_targetsOf 65 = .ok (.aaload, 1) := by decide +kernel
theorem dX3_targetsOf_66 : decode cX3_targetsOf 66 = .ok (.getfield 204, 3) := by decide +kernel
theorem dX3_targetsOf_69 : decode cX3_targetsOf 69 = .ok (.istore_n 2, 1) := by decide +kernel
theorem dX3_targetsOf_70 : decode cX3_targetsOf 70 = .ok (.iload_n 2, 1) := by decide +kernel
theorem dX3_targetsOf_71 : decode cX3_targetsOf 71 = .ok (.aload_n 1, 1) := by decide +kernel
theorem dX3_targetsOf_72 : decode cX3_targetsOf 72 = .ok (.getfield 136, 3) := by decide +kernel
theorem dX3_targetsOf_75 : decode cX3_targetsOf 75 = .ok (.if_icmp .ne 18, 3) := by decide +kernel
theorem dX3_targetsOf_78 : decode cX3_targetsOf 78 = .ok (.aload_n 0, 1) := by decide +kernel
theorem dX3_targetsOf_79 : decode cX3_targetsOf 79 = .ok (.getfield 28, 3) := by decide +kernel
theorem dX3_targetsOf_82 : decode cX3_targetsOf 82 = .ok (.getfield 48, 3) := by decide +kernel
theorem dX3_targetsOf_85 : decode cX3_targetsOf 85 = .ok (.iload_n 2, 1) := by decide +kernel
theorem dX3_targetsOf_86 : decode cX3_targetsOf 86 = .ok (.aaload, 1) := by decide +kernel
theorem dX3_targetsOf_87 : decode cX3_targetsOf 87 = .ok (.getfield 219, 3) := by decide +kernel
theorem dX3_targetsOf_90 : decode cX3_targetsOf 90 = .ok (.goto 7, 3) := by decide +kernel
theorem dX3_targetsOf_93 : decode cX3_targetsOf 93 = .ok (.iload_n 2, 1) := by decide +kernel
theorem dX3_targetsOf_94 : decode cX3_targetsOf 94 = .ok (.invokestatic 143, 3) := by decide +kernel
theorem dX3_targetsOf_97 : decode cX3_targetsOf 97 = .ok (.ireturn, 1) := by decide +kernel
theorem dX3_step_0 : decode cX3_step 0 = .ok (.aload_n 0, 1) := by decide +kernel
theorem dX3_step_1 : decode cX3_step 1 = .ok (.iload_n 1, 1) := by decide +kernel
theorem dX3_step_2 : decode cX3_step 2 = .ok (.invokevirtual 96, 3) := by decide +kernel
theorem dX3_step_5 : decode cX3_step 5 = .ok (.istore_n 2, 1) := by decide +kernel
theorem dX3_step_6 : decode cX3_step 6 = .ok (.iload_n 2, 1) := by decide +kernel
theorem dX3_step_7 : decode cX3_step 7 = .ok (.ifCond .ne 5, 3) := by decide +kernel
theorem dX3_step_10 : decode cX3_step 10 = .ok (.iconst 0, 1) := by decide +kernel
theorem dX3_step_11 : decode cX3_step 11 = .ok (.ireturn, 1) := by decide +kernel
theorem dX3_step_12 : decode cX3_step 12 = .ok (.aload_n 0, 1) := by decide +kernel
theorem dX3_step_13 : decode cX3_step 13 = .ok (.iload_n 2, 1) := by decide +kernel
theorem dX3_step_14 : decode cX3_step 14 = .ok (.invokevirtual 99, 3) := by decide +kernel
theorem dX3_step_17 : decode cX3_step 17 = .ok (.iconst 0, 1) := by decide +kernel
theorem dX3_step_18 : decode cX3_step 18 = .ok (.istore_n 3, 1) := by decide +kernel
theorem dX3_step_19 : decode cX3_step 19 = .ok (.iconst 0, 1) := by decide +kernel
theorem dX3_step_20 : decode cX3_step 20 = .ok (.istore 4, 2) := by decide +kernel
theorem dX3_step_22 : decode cX3_step 22 = .ok (.iload 4, 2) := by decide +kernel
theorem dX3_step_24 : decode cX3_step 24 = .ok (.aload_n 0, 1) := by decide +kernel
theorem dX3_step_25 : decode cX3_step 25 = .ok (.getfield 103, 3) := by decide +kernel
theorem dX3_step_28 : decode cX3_step 28 = .ok (.if_icmp .ge 31, 3) := by decide +kernel
theorem dX3_step_31 : decode cX3_step 31 = .ok (.iload_n 3, 1) := by decide +kernel
theorem dX3_step_32 : decode cX3_step 32 = .ok (.aload_n 0, 1) := by decide +kernel
theorem dX3_step_33 : decode cX3_step 33 = .ok (.aload_n 0, 1) := by decide +kernel
theorem dX3_step_34 : decode cX3_step 34 = .ok (.getfield 28, 3) := by decide +kernel
theorem dX3_step_37 : decode cX3_step 37 = .ok (.getfield 106, 3) := by decide +kernel
theorem dX3_step_40 : decode cX3_step 40 = .ok (.aload_n 0, 1) := by decide +kernel
theorem dX3_step_41 : decode cX3_step 41 = .ok (.getfield 25, 3) := by decide +kernel
theorem dX3_step_44 : decode cX3_step 44 = .ok (.iload 4, 2) := by decide +kernel
theorem dX3_step_46 : decode cX3_step 46 = .ok (.iaload, 1) := by decide +kernel
theorem dX3_step_47 : decode cX3_step 47 = .ok (.aaload, 1) := by decide +kernel
theorem dX3_step_48 : decode cX3_step 48 = .ok (.invokevirtual 110, 3) := by decide +kernel
theorem dX3_step_51 : decode cX3_step 51 = .ok (.ior, 1) := by decide +kernel
theorem dX3_step_52 : decode cX3_step 52 = .ok (.istore_n 3, 1) := by decide +kernel
theorem dX3_step_53 : decode cX3_step 53 = .ok (.iinc 4 1, 3) := by decide +kernel
theorem dX3_step_56 : decode cX3_step 56 = .ok (.goto (-34), 3) := by decide +kernel
theorem dX3_step_59 : decode cX3_step 59 = .ok (.aload_n 0, 1) := by decide +kernel
theorem dX3_step_60 : decode cX3_step 60 = .ok (.iload_n 3, 1) := by decide +kernel
theorem dX3_step_61 : decode cX3_step 61 = .ok (.invokevirtual 114, 3) := by decide +kernel
theorem dX3_step_64 : decode cX3_step 64 = .ok (.aload_n 0, 1) := by decide +kernel
theorem dX3_step_65 : decode cX3_step 65 = .ok (.iload_n 3, 1) := by decide +kernel
theorem dX3_step_66 : decode cX3_step 66 = .ok (.invokevirtual 117, 3) := by decide +kernel
theorem dX3_step_69 : decode cX3_step 69 = .ok (.iconst 0, 1) := by decide +kernel
theorem dX3_step_70 : decode cX3_step 70 = .ok (.istore 4, 2) := by decide +kernel
theorem dX3_step_72 : decode cX3_step 72 = .ok (.iconst 0, 1) := by decide +kernel
theorem dX3_step_73 : decode cX3_step 73 = .ok (.istore 5, 2) := by decide +kernel
theorem dX3_step_75 : decode cX3_step 75 = .ok (.iload 5, 2) := by decide +kernel
theorem dX3_step_77 : decode cX3_step 77 = .ok (.aload_n 0, 1) := by decide +kernel
theorem dX3_step_78 : decode cX3_step 78 = .ok (.getfield 103, 3) := by decide +kernel
theorem dX3_step_81 : decode cX3_step 81 = .ok (.if_icmp .ge 102, 3) := by decide +kernel
theorem dX3_step_84 : decode cX3_step 84 = .ok (.aload_n 0, 1) := by decide +kernel
theorem dX3_step_85 : decode cX3_step 85 = .ok (.getfield 28, 3) := by decide +kernel
theorem dX3_step_88 : decode cX3_step 88 = .ok (.getfield 106, 3) := by decide +kernel
theorem dX3_step_91 : decode cX3_step 91 = .ok (.aload_n 0, 1) := by decide +kernel
theorem dX3_step_92 : decode cX3_step 92 = .ok (.getfield 25, 3) := by decide +kernel
theorem dX3_step_95 : decode cX3_step 95 = .ok (.iload 5, 2) := by decide +kernel
theorem dX3_step_97 : decode cX3_step 97 = .ok (.iaload, 1) := by decide +kernel
theorem dX3_step_98 : decode cX3_step 98 = .ok (.aaload, 1) := by decide +kernel
theorem dX3_step_99 : decode cX3_step 99 = .ok (.astore 6, 2) := by decide +kernel
theorem dX3_step_101 : decode cX3_step 101 = .ok (.aload_n 0, 1) := by decide +kernel
theorem dX3_step_102 : decode cX3_step 102 = .ok (.aload 6, 2) := by decide +kernel
theorem dX3_step_104 : decode cX3_step 104 = .ok (.getfield 120, 3) := by decide +kernel
theorem dX3_step_107 : decode cX3_step 107 = .ok (.invokevirtual 126, 3) := by decide +kernel
theorem dX3_step_110 : decode cX3_step 110 = .ok (.aload 6, 2) := by decide +kernel
theorem dX3_step_112 : decode cX3_step 112 = .ok (.getfield 130, 3) := by decide +kernel
theorem dX3_step_115 : decode cX3_step 115 = .ok (.iconst (-1), 1) := by decide +kernel
theorem dX3_step_116 : decode cX3_step 116 = .ok (.if_icmp .eq 26, 3) := by decide +kernel
theorem dX3_step_119 : decode cX3_step 119 = .ok (.iload 4, 2) := by decide +kernel
theorem dX3_step_121 : decode cX3_step 121 = .ok (.aload_n 0, 1) := by decide +kernel
theorem dX3_step_122 : decode cX3_step 122 = .ok (.getfield 28, 3) := by decide +kernel
theorem dX3_step_125 : decode cX3_step 125 = .ok (.aload_n 0, 1) := by decide +kernel
theorem dX3_step_126 : decode cX3_step 126 = .ok (.aload 6, 2) := by decide +kernel
theorem dX3_step_128 : decode cX3_step 128 = .ok (.invokevirtual 133, 3) := by decide +kernel
theorem dX3_step_131 : decode cX3_step 131 = .ok (.aload 6, 2) := by decide +kernel
theorem dX3_step_133 : decode cX3_step 133 = .ok (.getfield 136, 3) := by decide +kernel
theorem dX3_step_136 : decode cX3_step 136 = .ok (.invokevirtual 139, 3) := by decide +kernel
theorem dX3_step_139 : decode cX3_step 139 = .ok (.ior, 1) := by decide +kernel
theorem dX3_step_140 : decode cX3_step 140 = .ok (.istore 4, 2) := by decide +kernel
theorem dX3_step_142 : decode cX3_step 142 = .ok (.aload_n 0, 1) := by decide +kernel
theorem dX3_step_143 : decode cX3_step 143 = .ok (.getfield 18, 3) := by decide +kernel
theorem dX3_step_146 : decode cX3_step 146 = .ok (.aload_n 0, 1) := by decide +kernel
theorem dX3_step_147 : decode cX3_step 147 = .ok (.getfield 25, 3) := by decide +kernel
theorem dX3_step_150 : decode cX3_step 150 = .ok (.iload 5, 2) := by decide +kernel
theorem dX3_step_152 : decode cX3_step 152 = .ok (.iaload, 1) := by decide +kernel
theorem dX3_step_153 : decode cX3_step 153 = .ok (.dup2, 1) := by decide +kernel
theorem dX3_step_154 : decode cX3_step 154 = .ok (.iaload, 1) := by decide +kernel
theorem dX3_step_155 : decode cX3_step 155 = .ok (.iconst 1, 1) := by decide +kernel
theorem dX3_step_156 : decode cX3_step 156 = .ok (.iadd, 1) := by decide +kernel
theorem dX3_step_157 : decode cX3_step 157 = .ok (.iastore, 1) := by decide +kernel
theorem dX3_step_158 : decode cX3_step 158 = .ok (.aload_n 0, 1) := by decide +kernel
theorem dX3_step_159 : decode cX3_step 159 = .ok (.dup, 1) := by decide +kernel
theorem dX3_step_160 : decode cX3_step 160 = .ok (.getfield 65, 3) := by decide +kernel
theorem dX3_step_163 : decode cX3_step 163 = .ok (.aload_n 0, 1) := by decide +kernel
theorem dX3_step_164 : decode cX3_step 164 = .ok (.getfield 25, 3) := by decide +kernel
theorem dX3_step_167 : decode cX3_step 167 = .ok (.iload 5, 2) := by decide +kernel
theorem dX3_step_169 : decode cX3_step 169 = .ok (.iaload, 1) := by decide +kernel
theorem dX3_step_170 : decode cX3_step 170 = .ok (.invokestatic 143, 3) := by decide +kernel
theorem dX3_step_173 : decode cX3_step 173 = .ok (.ior, 1) := by decide +kernel
theorem dX3_step_174 : decode cX3_step 174 = .ok (.putfield 65, 3) := by decide +kernel
theorem dX3_step_177 : decode cX3_step 177 = .ok (.iinc 5 1, 3) := by decide +kernel
theorem dX3_step_180 : decode cX3_step 180 = .ok (.goto (-105), 3) := by decide +kernel
theorem dX3_step_183 : decode cX3_step 183 = .ok (.aload_n 0, 1) := by decide +kernel
theorem dX3_step_184 : decode cX3_step 184 = .ok (.iload 4, 2) := by decide +kernel
theorem dX3_step_186 : decode cX3_step 186 = .ok (.invokevirtual 146, 3) := by decide +kernel
theorem dX3_step_189 : decode cX3_step 189 = .ok (.aload_n 0, 1) := by decide +kernel
theorem dX3_step_190 : decode cX3_step 190 = .ok (.getfield 103, 3) := by decide +kernel
theorem dX3_step_193 : decode cX3_step 193 = .ok (.ireturn, 1) := by decide +kernel
theorem dX3_proceed_0 : decode cX3_proceed 0 = .ok (.aload_n 0, 1) := by decide +kernel
theorem dX3_proceed_1 : decode cX3_proceed 1 = .ok (.iconst 0, 1) := by decide +kernel
theorem dX3_proceed_2 : decode cX3_proceed 2 = .ok (.putfield 65, 3) := by decide +kernel
theorem dX3_proceed_5 : decode cX3_proceed 5 = .ok (.aload_n 0, 1) := by decide +kernel
theorem dX3_proceed_6 : decode cX3_proceed 6 = .ok (.invokevirtual 68, 3) := by decide +kernel
theorem dX3_proceed_9 : decode cX3_proceed 9 = .ok (.ifCond .eq 9, 3) := by decide +kernel
theorem dX3_proceed_12 : decode cX3_proceed 12 = .ok (.aload_n 0, 1) := by decide +kernel
theorem dX3_proceed_13 : decode cX3_proceed 13 = .ok (.invokevirtual 72, 3) := by decide +kernel
theorem dX3_proceed_16 : decode cX3_proceed 16 = .ok (.iconst 0, 1) := by decide +kernel
theorem dX3_proceed_17 : decode cX3_proceed 17 = .ok (.ireturn, 1) := by decide +kernel
theorem dX3_proceed_18 : decode cX3_proceed 18 = .ok (.iload_n 1, 1) := by decide +kernel
theorem dX3_proceed_19 : decode cX3_proceed 19 = .ok (.bipush 10, 2) := by decide +kernel
theorem dX3_proceed_21 : decode cX3_proceed 21 = .ok (.if_icmp .ne 7, 3) := by decide +kernel
theorem dX3_proceed_24 : decode cX3_proceed 24 = .ok (.aload_n 0, 1) := by decide +kernel
theorem dX3_proceed_25 : decode cX3_proceed 25 = .ok (.invokevirtual 75, 3) := by decide +kernel
theorem dX3_proceed_28 : decode cX3_proceed 28 = .ok (.iload_n 1, 1) := by decide +kernel
theorem dX3_proceed_29 : decode cX3_proceed 29 = .ok (.istore_n 2, 1) := by decide +kernel
theorem dX3_proceed_30 : decode cX3_proceed 30 = .ok (.iconst 0, 1) := by decide +kernel
theorem dX3_proceed_31 : decode cX3_proceed 31 = .ok (.istore_n 3, 1) := by decide +kernel
theorem dX3_proceed_32 : decode cX3_proceed 32 = .ok (.iconst 0, 1) := by decide +kernel
theorem dX3_proceed_33 : decode cX3_proceed 33 = .ok (.istore 4, 2) := by decide +kernel
theorem dX3_proceed_35 : decode cX3_proceed 35 = .ok (.iconst 0, 1) := by decide +kernel
theorem dX3_proceed_36 : decode cX3_proceed 36 = .ok (.istore 5, 2) := by decide +kernel
theorem dX3_proceed_38 : decode cX3_proceed 38 = .ok (.iload 5, 2) := by decide +kernel
theorem dX3_proceed_40 : decode cX3_proceed 40 = .ok (.sipush 1000, 3) := by decide +kernel
theorem dX3_proceed_43 : decode cX3_proceed 43 = .ok (.if_icmp .ge 106, 3) := by decide +kernel
theorem dX3_proceed_46 : decode cX3_proceed 46 = .ok (.aload_n 0, 1) := by decide +kernel
theorem dX3_proceed_47 : decode cX3_proceed 47 = .ok (.iload_n 2, 1) := by decide +kernel
theorem dX3_proceed_48 : decode cX3_proceed 48 = .ok (.invokevirtual 78, 3) := by decide +kernel
theorem dX3_proceed_51 : decode cX3_proceed 51 = .ok (.istore 6, 2) := by decide +kernel
theorem dX3_proceed_53 : decode cX3_proceed 53 = .ok (.iload_n 3, 1) := by decide +kernel
theorem dX3_proceed_54 : decode cX3_proceed 54 = .ok (.iload 6, 2) := by decide +kernel
theorem dX3_proceed_56 : decode cX3_proceed 56 = .ok (.iadd, 1) := by decide +kernel
theorem dX3_proceed_57 : decode cX3_proceed 57 = .ok (.istore_n 3, 1) := by decide +kernel
theorem dX3_proceed_58 : decode cX3_proceed 58 = .ok (.iload 4, 2) := by decide +kernel
theorem dX3_proceed_60 : decode cX3_proceed 60 = .ok (.iload 6, 2) := by decide +kernel
theorem dX3_proceed_62 : decode cX3_proceed 62 = .ok (.ifCond .le 7, 3) := by decide +kernel
theorem dX3_proceed_65 : decode cX3_proceed 65 = .ok (.iconst 1, 1) := by decide +kernel
theorem dX3_proceed_66 : decode cX3_proceed 66 = .ok (.goto 4, 3) := by decide +kernel
theorem dX3_proceed_69 : decode cX3_proceed 69 = .ok (.iconst 0, 1) := by decide +kernel
theorem dX3_proceed_70 : decode cX3_proceed 70 = .ok (.iadd, 1) := by decide +kernel
theorem dX3_proceed_71 : decode cX3_proceed 71 = .ok (.istore 4, 2) := by decide +kernel
theorem dX3_proceed_73 : decode cX3_proceed 73 = .ok (.aload_n 0, 1) := by decide +kernel
theorem dX3_proceed_74 : decode cX3_proceed 74 = .ok (.invokevirtual 68, 3) := by decide +kernel
theorem dX3_proceed_77 : decode cX3_proceed 77 = .ok (.ifCond .eq 9, 3) := by decide +kernel
theorem dX3_proceed_80 : decode cX3_proceed 80 = .ok (.aload_n 0, 1) := by decide +kernel
theorem dX3_proceed_81 : decode cX3_proceed 81 = .ok (.invokevirtual 72, 3) := by decide +kernel
theorem dX3_proceed_84 : decode cX3_proceed 84 = .ok (.iload_n 3, 1) := by decide +kernel
theorem dX3_proceed_85 : decode cX3_proceed 85 = .ok (.ireturn, 1) := by decide +kernel
theorem dX3_proceed_86 : decode cX3_proceed 86 = .ok (.iload 4, 2) := by decide +kernel
theorem dX3_proceed_88 : decode cX3_proceed 88 = .ok (.bipush 12, 2) := by decide +kernel
theorem dX3_proceed_90 : decode cX3_proceed 90 = .ok (.if_icmp .ne 19, 3) := by decide +kernel
theorem dX3_proceed_93 : decode cX3_proceed 93 = .ok (.aload_n 0, 1) := by decide +kernel
theorem dX3_proceed_94 : decode cX3_proceed 94 = .ok (.invokevirtual 72, 3) := by decide +kernel
theorem dX3_proceed_97 : decode cX3_proceed 97 = .ok (.aload_n 0, 1) := by decide +kernel
theorem dX3_proceed_98 : decode cX3_proceed 98 = .ok (.dup, 1) := by decide +kernel
theorem dX3_proceed_99 : decode cX3_proceed 99 = .ok (.getfield 42, 3) := by decide +kernel
theorem dX3_proceed_102 : decode cX3_proceed 102 = .ok (.iconst 1, 1) := by decide +kernel
theorem dX3_proceed_103 : decode cX3_proceed 103 = .ok (.iadd, 1) := by decide +kernel
theorem dX3_proceed_104 : decode cX3_proceed 104 = .ok (.putfield 42, 3) := by decide +kernel
theorem dX3_proceed_107 : decode cX3_proceed 107 = .ok (.iload_n 3, 1) := by decide +kernel
theorem dX3_proceed_108 : decode cX3_proceed 108 = .ok (.ireturn, 1) := by decide +kernel
theorem dX3_proceed_109 : decode cX3_proceed 109 = .ok (.iload 6, 2) := by decide +kernel
theorem dX3_proceed_111 : decode cX3_proceed 111 = .ok (.ifCond .gt 9, 3) := by decide +kernel
theorem dX3_proceed_114 : decode cX3_proceed 114 = .ok (.iload_n 2, 1) := by decide +kernel
theorem dX3_proceed_115 : decode cX3_proceed 115 = .ok (.bipush 11, 2) := by decide +kernel
theorem dX3_proceed_117 : decode cX3_proceed 117 = .ok (.if_icmp .eq 9, 3) := by decide +kernel
theorem dX3_proceed_120 : decode cX3_proceed 120 = .ok (.bipush 11, 2) := by decide +kernel
theorem dX3_proceed_122 : decode cX3_proceed 122 = .ok (.istore_n 2, 1) := by decide +kernel
theorem dX3_proceed_123 : decode cX3_proceed 123 = .ok (.goto 20, 3) := by decide +kernel
theorem dX3_proceed_126 : decode cX3_proceed 126 = .ok (.aload_n 0, 1) := by decide +kernel
theorem dX3_proceed_127 : decode cX3_proceed 127 = .ok (.getfield 45, 3) := by decide +kernel
theorem dX3_proceed_130 : decode cX3_proceed 130 = .ok (.ifCond .le 11, 3) := by decide +kernel
theorem dX3_proceed_133 : decode cX3_proceed 133 = .ok (.aload_n 0, 1) := by decide +kernel
theorem dX3_proceed_134 : decode cX3_proceed 134 = .ok (.invokevirtual 82, 3) := by decide +kernel
theorem dX3_proceed_137 : decode cX3_proceed 137 = .ok (.istore_n 2, 1) := by decide +kernel
theorem dX3_proceed_138 : decode cX3_proceed 138 = .ok (.goto 5, 3) := by decide +kernel
theorem dX3_proceed_141 : decode cX3_proceed 141 = .ok (.iload_n 3, 1) := by decide +kernel
theorem dX3_proceed_142 : decode cX3_proceed 142 = .ok (.ireturn, 1) := by decide +kernel
theorem dX3_proceed_143 : decode cX3_proceed 143 = .ok (.iinc 5 1, 3) := by decide +kernel
theorem dX3_proceed_146 : decode cX3_proceed 146 = .ok (.goto (-108), 3) := by decide +kernel
theorem dX3_proceed_149 : decode cX3_proceed 149 = .ok (.iload_n 3, 1) := by decide +kernel
theorem dX3_proceed_150 : decode cX3_proceed 150 = .ok (.ireturn, 1) := by decide +kernel
end
section
-- ===== J6_bitCount_0f7a4
def wpJ6_bitCount_0f7a4 (p1 : Int32) (M : pt_M) (Q : Int32 → pt_M → Prop) : Prop :=
  ∀ x0_9 : Int32, x0_9 = (p1 - ((((p1 : Int32).toUInt32 >>> ((1 : Int32).toUInt32 &&& Int32.toUInt32 31)).toInt32) &&& 1431655765)) → ∀ x0_23 : Int32, x0_23 = ((x0_9 &&& 858993459) + ((((x0_9 : Int32).toUInt32 >>> ((2 : Int32).toUInt32 &&& Int32.toUInt32 31)).toInt32) &&& 858993459)) → ∀ x0_33 : Int32, x0_33 = ((x0_23 + (((x0_23 : Int32).toUInt32 >>> ((4 : Int32).toUInt32 &&& Int32.toUInt32 31)).toInt32)) &&& 252645135) → ∀ x0_40 : Int32, x0_40 = (x0_33 + (((x0_33 : Int32).toUInt32 >>> ((8 : Int32).toUInt32 &&& Int32.toUInt32 31)).toInt32)) → ∀ x0_47 : Int32, x0_47 = (x0_40 + (((x0_40 : Int32).toUInt32 >>> ((16 : Int32).toUInt32 &&& Int32.toUInt32 31)).toInt32)) → Q (x0_47 &&& 63) M
set_option maxHeartbeats 4000000 in
set_option maxRecDepth 100000 in
theorem mtJ6_bitCount_0f7a4 (l : Launch) (D : va_G) (cA : Nat → ClassId) (ad : Nat → Nat) (hI : pt_I ad) (sz : Nat) (p1 : Int32) (M : pt_M) (Q : Int32 → pt_M → Prop) (hw : wpJ6_bitCount_0f7a4 p1 M Q) : Met l yJ6_bitCount_0f7a4 (Cond.code yJ6_bitCount_0f7a4 cJ6_bitCount_0f7a4 1 (some .int) :: lw_all) ({ frames := 0, cells := 0, slots := 0, locals := 0 } : Room) (va_Pc [.int p1] (pt_P D cA ad sz M)) (va_Qi Q (pt_B D cA ad) (pt_fr ad sz)) 0 0 (pt_fr ad sz) := by
  refine Met.ofW (cc := cJ6_bitCount_0f7a4) (maxL := 1) (ret := (some .int)) (by decide) rfl ?_
  intro p e s m args below meth c s₁ B hml hv
  obtain ⟨rfl, hsz, hP, hK⟩ := hv
  have hx := B.exec
  have hb := B.bytes
  have hr := B.returns
  have hts0 := atoms_spec (ws := (Cond.code yJ6_bitCount_0f7a4 cJ6_bitCount_0f7a4 1 (some .int) :: lw_all)) B.pre
  have hown : s.vm.findClass RJ6 = some m.cls := findClass_of_methodNamed B.named
  have hlocks := B.notSynchronized
  subst hsz
  have F : pt_F p m c cJ6_bitCount_0f7a4 1 s _ RJ6 D cA := ⟨⟨hx, hb, hml, hown, fun w h => hts0 w (List.mem_cons_of_mem _ h)⟩, hK⟩
  have hD : ∀ M, va_D (pt_fr ad s.heap.size) (pt_W cA ad M) := pt_D hI (fun k h => Or.inl ⟨k, h, rfl⟩)
  have hS : va_S (pt_fr ad s.heap.size) s.heap s.heap [] := va_S.rf
  have hl := lv_entry ([.int p1]) (n := 1) (Nat.le_of_ble_eq_true rfl)
  rw [lg_entry_eq]
  generalize (lg_sl ([.int p1]) ++ List.replicate (1 - (lg_sl ([.int p1])).length) Slot.unset).toArray = ls at hl ⊢
  have hl : lv_has ls 1 [(0, .int p1)] := hl
  unfold wpJ6_bitCount_0f7a4 at hw
  refine lv_iload_n hx hb dJ6_bitCount_0f7a4_0 rfl (lv_at hl 0 rfl) ?_
  refine lv_iload_n hx hb dJ6_bitCount_0f7a4_1 rfl (lv_at hl 0 rfl) ?_
  refine lv_iconst (v := 1) hx hb dJ6_bitCount_0f7a4_2 (by decide) ?_
  refine lv_iushr hx hb dJ6_bitCount_0f7a4_3 rfl ?_
  refine lv_ldcw (v := 1431655765) hx hb hown (F.1.2.2.2.2 _ kw_444) dJ6_bitCount_0f7a4_4 ?_
  refine lv_iand hx hb dJ6_bitCount_0f7a4_7 ?_
  refine lv_isub hx hb dJ6_bitCount_0f7a4_8 ?_
  refine lv_topi (fun x0_9 ex0_9 => ?_)
  replace hw := hw x0_9 ex0_9
  refine lv_istore_n (lv' := [(0, .int x0_9)]) hx hb dJ6_bitCount_0f7a4_9 rfl hl (by decide) rfl (fun ls hl => ?_)
  refine lv_iload_n hx hb dJ6_bitCount_0f7a4_10 rfl (lv_at hl 0 rfl) ?_
  refine lv_ldcw (v := 858993459) hx hb hown (F.1.2.2.2.2 _ kw_445) dJ6_bitCount_0f7a4_11 ?_
  refine lv_iand hx hb dJ6_bitCount_0f7a4_14 ?_
  refine lv_iload_n hx hb dJ6_bitCount_0f7a4_15 rfl (lv_at hl 0 rfl) ?_
  refine lv_iconst (v := 2) hx hb dJ6_bitCount_0f7a4_16 (by decide) ?_
  refine lv_iushr hx hb dJ6_bitCount_0f7a4_17 rfl ?_
  refine lv_ldcw (v := 858993459) hx hb hown (F.1.2.2.2.2 _ kw_445) dJ6_bitCount_0f7a4_18 ?_
  refine lv_iand hx hb dJ6_bitCount_0f7a4_21 ?_
  refine lv_iadd hx hb dJ6_bitCount_0f7a4_22 ?_
  refine lv_topi (fun x0_23 ex0_23 => ?_)
  replace hw := hw x0_23 ex0_23
  refine lv_istore_n (lv' := [(0, .int x0_23)]) hx hb dJ6_bitCount_0f7a4_23 rfl hl (by decide) rfl (fun ls hl => ?_)
  refine lv_iload_n hx hb dJ6_bitCount_0f7a4_24 rfl (lv_at hl 0 rfl) ?_
  refine lv_iload_n hx hb dJ6_bitCount_0f7a4_25 rfl (lv_at hl 0 rfl) ?_
  refine lv_iconst (v := 4) hx hb dJ6_bitCount_0f7a4_26 (by decide) ?_
  refine lv_iushr hx hb dJ6_bitCount_0f7a4_27 rfl ?_
  refine lv_iadd hx hb dJ6_bitCount_0f7a4_28 ?_
  refine lv_ldcw (v := 252645135) hx hb hown (F.1.2.2.2.2 _ kw_446) dJ6_bitCount_0f7a4_29 ?_
  refine lv_iand hx hb dJ6_bitCount_0f7a4_32 ?_
  refine lv_topi (fun x0_33 ex0_33 => ?_)
  replace hw := hw x0_33 ex0_33
  refine lv_istore_n (lv' := [(0, .int x0_33)]) hx hb dJ6_bitCount_0f7a4_33 rfl hl (by decide) rfl (fun ls hl => ?_)
  refine lv_iload_n hx hb dJ6_bitCount_0f7a4_34 rfl (lv_at hl 0 rfl) ?_
  refine lv_iload_n hx hb dJ6_bitCount_0f7a4_35 rfl (lv_at hl 0 rfl) ?_
  refine lv_bipush (v := 8) hx hb dJ6_bitCount_0f7a4_36 (by decide) ?_
  refine lv_iushr hx hb dJ6_bitCount_0f7a4_38 rfl ?_
  refine lv_iadd hx hb dJ6_bitCount_0f7a4_39 ?_
  refine lv_topi (fun x0_40 ex0_40 => ?_)
  replace hw := hw x0_40 ex0_40
  refine lv_istore_n (lv' := [(0, .int x0_40)]) hx hb dJ6_bitCount_0f7a4_40 rfl hl (by decide) rfl (fun ls hl => ?_)
  refine lv_iload_n hx hb dJ6_bitCount_0f7a4_41 rfl (lv_at hl 0 rfl) ?_
  refine lv_iload_n hx hb dJ6_bitCount_0f7a4_42 rfl (lv_at hl 0 rfl) ?_
  refine lv_bipush (v := 16) hx hb dJ6_bitCount_0f7a4_43 (by decide) ?_
  refine lv_iushr hx hb dJ6_bitCount_0f7a4_45 rfl ?_
  refine lv_iadd hx hb dJ6_bitCount_0f7a4_46 ?_
  refine lv_topi (fun x0_47 ex0_47 => ?_)
  replace hw := hw x0_47 ex0_47
  refine lv_istore_n (lv' := [(0, .int x0_47)]) hx hb dJ6_bitCount_0f7a4_47 rfl hl (by decide) rfl (fun ls hl => ?_)
  refine lv_iload_n hx hb dJ6_bitCount_0f7a4_48 rfl (lv_at hl 0 rfl) ?_
  refine lv_bipush (v := 63) hx hb dJ6_bitCount_0f7a4_49 (by decide) ?_
  refine lv_iand hx hb dJ6_bitCount_0f7a4_51 ?_
  exact W.iret (v := (x0_47 &&& 63)) hx hb hr (fun t ht hW => ⟨⟨(x0_47 &&& 63), M, rfl, hw, by unfold pt_B; rw [ht]; exact hP⟩, hS.F ht⟩) hS.2.2 dJ6_bitCount_0f7a4_52
-- ===== X7_has
def wjX7_has_13 (p1 : Int32) (p2 : Int32) (Q : Int32 → pt_M → Prop)  (xs0 : Int32) (M : pt_M) : Prop :=
  pt_zb xs0 ∧ Q xs0 M
def wpX7_has (p1 : Int32) (p2 : Int32) (M : pt_M) (Q : Int32 → pt_M → Prop) : Prop :=
  (((p1 >>> (p2 &&& 31)) &&& 1) = 0 → wjX7_has_13 p1 p2 Q 0 M) ∧ (¬ ((p1 >>> (p2 &&& 31)) &&& 1) = 0 → wjX7_has_13 p1 p2 Q 1 M)
set_option maxHeartbeats 4000000 in
set_option maxRecDepth 100000 in
theorem mtX7_has (l : Launch) (D : va_G) (cA : Nat → ClassId) (ad : Nat → Nat) (hI : pt_I ad) (sz : Nat) (p1 : Int32) (p2 : Int32) (M : pt_M) (Q : Int32 → pt_M → Prop) (hw : wpX7_has p1 p2 M Q) : Met l yX7_has (Cond.code yX7_has cX7_has 2 (some .boolean) :: lw_all) ({ frames := 0, cells := 0, slots := 0, locals := 0 } : Room) (va_Pc [.int p1, .int p2] (pt_P D cA ad sz M)) (va_Qi Q (pt_B D cA ad) (pt_fr ad sz)) 0 0 (pt_fr ad sz) := by
  refine Met.ofW (cc := cX7_has) (maxL := 2) (ret := (some .boolean)) (by decide) rfl ?_
  intro p e s m args below meth c s₁ B hml hv
  obtain ⟨rfl, hsz, hP, hK⟩ := hv
  have hx := B.exec
  have hb := B.bytes
  have hr := B.returns
  have hts0 := atoms_spec (ws := (Cond.code yX7_has cX7_has 2 (some .boolean) :: lw_all)) B.pre
  have hown : s.vm.findClass RX7 = some m.cls := findClass_of_methodNamed B.named
  have hlocks := B.notSynchronized
  subst hsz
  have F : pt_F p m c cX7_has 2 s _ RX7 D cA := ⟨⟨hx, hb, hml, hown, fun w h => hts0 w (List.mem_cons_of_mem _ h)⟩, hK⟩
  have hD : ∀ M, va_D (pt_fr ad s.heap.size) (pt_W cA ad M) := pt_D hI (fun k h => Or.inl ⟨k, h, rfl⟩)
  have hS : va_S (pt_fr ad s.heap.size) s.heap s.heap [] := va_S.rf
  have hl := lv_entry ([.int p1, .int p2]) (n := 2) (Nat.le_of_ble_eq_true rfl)
  rw [lg_entry_eq]
  generalize (lg_sl ([.int p1, .int p2]) ++ List.replicate (2 - (lg_sl ([.int p1, .int p2])).length) Slot.unset).toArray = ls at hl ⊢
  have hl : lv_has ls 2 [(0, .int p1), (1, .int p2)] := hl
  have J13 : ∀ (xs0 : Int32) (M : pt_M) (H : Heap) (locs : List Loc) (ls : Array Slot), wjX7_has_13 p1 p2 Q xs0 M → va_P D pt_cl (pt_W cA ad M) H → va_S (pt_fr ad s.heap.size) s.heap H locs → lv_has ls 2 [] → W p l e (headSpec (Cond.code yX7_has cX7_has 2 (some .boolean) :: lw_all) ({ frames := 0, cells := 0, slots := 0, locals := 0 } : Room)).room s m ([.int p1, .int p2] : List Value).toArray below meth c H locs 0 0 (MQ below (va_Qi Q (pt_B D cA ad) (pt_fr ad s.heap.size)) ([.int p1, .int p2] : List Value).toArray s 0 0 (pt_fr ad s.heap.size)) (F0 m 13 ls [.int xs0]) := by
    intro xs0 M H locs ls hw hP hS hl
    unfold wjX7_has_13 at hw
    exact W.zret (v := xs0) (ty := .boolean) hx hb hr (pt_zb_n hw.1) (fun t ht hW => ⟨⟨xs0, M, rfl, hw.2, by unfold pt_B; rw [ht]; exact hP⟩, hS.F ht⟩) hS.2.2 dX7_has_13
  unfold wpX7_has at hw
  refine lv_iload_n hx hb dX7_has_0 rfl (lv_at hl 0 rfl) ?_
  refine lv_iload_n hx hb dX7_has_1 rfl (lv_at hl 1 rfl) ?_
  refine lv_ishr hx hb dX7_has_2 ?_
  refine lv_iconst (v := 1) hx hb dX7_has_3 (by decide) ?_
  refine lv_iand hx hb dX7_has_4 ?_
  refine lv_if_eq (tgt := 12) hx hb dX7_has_5 (by decide) (fun hc5 => ?_) (fun hc5 => ?_)
  · replace hw := hw.1 hc5
    refine lv_iconst (v := 0) hx hb dX7_has_12 (by decide) ?_
    exact J13 0 M _ _ _ hw hP hS (lv_sub hl [] rfl)
  · replace hw := hw.2 hc5
    refine lv_iconst (v := 1) hx hb dX7_has_8 (by decide) ?_
    refine lv_goto (tgt := 13) hx hb dX7_has_9 (by decide) ?_
    exact J13 1 M _ _ _ hw hP hS (lv_sub hl [] rfl)
-- ===== X7_setOf
def wpX7_setOf (p1 : Int32) (M : pt_M) (Q : Int32 → pt_M → Prop) : Prop :=
  Q (1 <<< (p1 &&& 31)) M
set_option maxHeartbeats 4000000 in
set_option maxRecDepth 100000 in
theorem mtX7_setOf (l : Launch) (D : va_G) (cA : Nat → ClassId) (ad : Nat → Nat) (hI : pt_I ad) (sz : Nat) (p1 : Int32) (M : pt_M) (Q : Int32 → pt_M → Prop) (hw : wpX7_setOf p1 M Q) : Met l yX7_setOf (Cond.code yX7_setOf cX7_setOf 1 (some .int) :: lw_all) ({ frames := 0, cells := 0, slots := 0, locals := 0 } : Room) (va_Pc [.int p1] (pt_P D cA ad sz M)) (va_Qi Q (pt_B D cA ad) (pt_fr ad sz)) 0 0 (pt_fr ad sz) := by
  refine Met.ofW (cc := cX7_setOf) (maxL := 1) (ret := (some .int)) (by decide) rfl ?_
  intro p e s m args below meth c s₁ B hml hv
  obtain ⟨rfl, hsz, hP, hK⟩ := hv
  have hx := B.exec
  have hb := B.bytes
  have hr := B.returns
  have hts0 := atoms_spec (ws := (Cond.code yX7_setOf cX7_setOf 1 (some .int) :: lw_all)) B.pre
  have hown : s.vm.findClass RX7 = some m.cls := findClass_of_methodNamed B.named
  have hlocks := B.notSynchronized
  subst hsz
  have F : pt_F p m c cX7_setOf 1 s _ RX7 D cA := ⟨⟨hx, hb, hml, hown, fun w h => hts0 w (List.mem_cons_of_mem _ h)⟩, hK⟩
  have hD : ∀ M, va_D (pt_fr ad s.heap.size) (pt_W cA ad M) := pt_D hI (fun k h => Or.inl ⟨k, h, rfl⟩)
  have hS : va_S (pt_fr ad s.heap.size) s.heap s.heap [] := va_S.rf
  have hl := lv_entry ([.int p1]) (n := 1) (Nat.le_of_ble_eq_true rfl)
  rw [lg_entry_eq]
  generalize (lg_sl ([.int p1]) ++ List.replicate (1 - (lg_sl ([.int p1])).length) Slot.unset).toArray = ls at hl ⊢
  have hl : lv_has ls 1 [(0, .int p1)] := hl
  unfold wpX7_setOf at hw
  refine lv_iconst (v := 1) hx hb dX7_setOf_0 (by decide) ?_
  refine lv_iload_n hx hb dX7_setOf_1 rfl (lv_at hl 0 rfl) ?_
  refine lv_ishl hx hb dX7_setOf_2 ?_
  exact W.iret (v := (1 <<< (p1 &&& 31))) hx hb hr (fun t ht hW => ⟨⟨(1 <<< (p1 &&& 31)), M, rfl, hw, by unfold pt_B; rw [ht]; exact hP⟩, hS.F ht⟩) hS.2.2 dX7_setOf_3
-- ===== X7_isWithin
def wjX7_isWithin_15 (p1 : Int32) (p2 : Int32) (p3 : Int32) (Q : Int32 → pt_M → Prop)  (xs0 : Int32) (M : pt_M) : Prop :=
  pt_zb xs0 ∧ Q xs0 M
def wjX7_isWithin_14 (p1 : Int32) (p2 : Int32) (p3 : Int32) (Q : Int32 → pt_M → Prop)   (M : pt_M) : Prop :=
  wjX7_isWithin_15 p1 p2 p3 Q 0 M
def wpX7_isWithin (p1 : Int32) (p2 : Int32) (p3 : Int32) (M : pt_M) (Q : Int32 → pt_M → Prop) : Prop :=
  (p1 < p2 → wjX7_isWithin_14 p1 p2 p3 Q M) ∧ (¬ p1 < p2 → (p3 < p1 → wjX7_isWithin_14 p1 p2 p3 Q M) ∧ (¬ p3 < p1 → wjX7_isWithin_15 p1 p2 p3 Q 1 M))
set_option maxHeartbeats 4000000 in
set_option maxRecDepth 100000 in
theorem mtX7_isWithin (l : Launch) (D : va_G) (cA : Nat → ClassId) (ad : Nat → Nat) (hI : pt_I ad) (sz : Nat) (p1 : Int32) (p2 : Int32) (p3 : Int32) (M : pt_M) (Q : Int32 → pt_M → Prop) (hw : wpX7_isWithin p1 p2 p3 M Q) : Met l yX7_isWithin (Cond.code yX7_isWithin cX7_isWithin 3 (some .boolean) :: lw_all) ({ frames := 0, cells := 0, slots := 0, locals := 0 } : Room) (va_Pc [.int p1, .int p2, .int p3] (pt_P D cA ad sz M)) (va_Qi Q (pt_B D cA ad) (pt_fr ad sz)) 0 0 (pt_fr ad sz) := by
  refine Met.ofW (cc := cX7_isWithin) (maxL := 3) (ret := (some .boolean)) (by decide) rfl ?_
  intro p e s m args below meth c s₁ B hml hv
  obtain ⟨rfl, hsz, hP, hK⟩ := hv
  have hx := B.exec
  have hb := B.bytes
  have hr := B.returns
  have hts0 := atoms_spec (ws := (Cond.code yX7_isWithin cX7_isWithin 3 (some .boolean) :: lw_all)) B.pre
  have hown : s.vm.findClass RX7 = some m.cls := findClass_of_methodNamed B.named
  have hlocks := B.notSynchronized
  subst hsz
  have F : pt_F p m c cX7_isWithin 3 s _ RX7 D cA := ⟨⟨hx, hb, hml, hown, fun w h => hts0 w (List.mem_cons_of_mem _ h)⟩, hK⟩
  have hD : ∀ M, va_D (pt_fr ad s.heap.size) (pt_W cA ad M) := pt_D hI (fun k h => Or.inl ⟨k, h, rfl⟩)
  have hS : va_S (pt_fr ad s.heap.size) s.heap s.heap [] := va_S.rf
  have hl := lv_entry ([.int p1, .int p2, .int p3]) (n := 3) (Nat.le_of_ble_eq_true rfl)
  rw [lg_entry_eq]
  generalize (lg_sl ([.int p1, .int p2, .int p3]) ++ List.replicate (3 - (lg_sl ([.int p1, .int p2, .int p3])).length) Slot.unset).toArray = ls at hl ⊢
  have hl : lv_has ls 3 [(0, .int p1), (1, .int p2), (2, .int p3)] := hl
  have J15 : ∀ (xs0 : Int32) (M : pt_M) (H : Heap) (locs : List Loc) (ls : Array Slot), wjX7_isWithin_15 p1 p2 p3 Q xs0 M → va_P D pt_cl (pt_W cA ad M) H → va_S (pt_fr ad s.heap.size) s.heap H locs → lv_has ls 3 [] → W p l e (headSpec (Cond.code yX7_isWithin cX7_isWithin 3 (some .boolean) :: lw_all) ({ frames := 0, cells := 0, slots := 0, locals := 0 } : Room)).room s m ([.int p1, .int p2, .int p3] : List Value).toArray below meth c H locs 0 0 (MQ below (va_Qi Q (pt_B D cA ad) (pt_fr ad s.heap.size)) ([.int p1, .int p2, .int p3] : List Value).toArray s 0 0 (pt_fr ad s.heap.size)) (F0 m 15 ls [.int xs0]) := by
    intro xs0 M H locs ls hw hP hS hl
    unfold wjX7_isWithin_15 at hw
    exact W.zret (v := xs0) (ty := .boolean) hx hb hr (pt_zb_n hw.1) (fun t ht hW => ⟨⟨xs0, M, rfl, hw.2, by unfold pt_B; rw [ht]; exact hP⟩, hS.F ht⟩) hS.2.2 dX7_isWithin_15
  have J14 : ∀ (M : pt_M) (H : Heap) (locs : List Loc) (ls : Array Slot), wjX7_isWithin_14 p1 p2 p3 Q M → va_P D pt_cl (pt_W cA ad M) H → va_S (pt_fr ad s.heap.size) s.heap H locs → lv_has ls 3 [] → W p l e (headSpec (Cond.code yX7_isWithin cX7_isWithin 3 (some .boolean) :: lw_all) ({ frames := 0, cells := 0, slots := 0, locals := 0 } : Room)).room s m ([.int p1, .int p2, .int p3] : List Value).toArray below meth c H locs 0 0 (MQ below (va_Qi Q (pt_B D cA ad) (pt_fr ad s.heap.size)) ([.int p1, .int p2, .int p3] : List Value).toArray s 0 0 (pt_fr ad s.heap.size)) (F0 m 14 ls []) := by
    intro M H locs ls hw hP hS hl
    unfold wjX7_isWithin_14 at hw
    refine lv_iconst (v := 0) hx hb dX7_isWithin_14 (by decide) ?_
    exact J15 0 M _ _ _ hw hP hS (lv_sub hl [] rfl)
  unfold wpX7_isWithin at hw
  refine lv_iload_n hx hb dX7_isWithin_0 rfl (lv_at hl 0 rfl) ?_
  refine lv_iload_n hx hb dX7_isWithin_1 rfl (lv_at hl 1 rfl) ?_
  refine lv_icmp_lt (tgt := 14) hx hb dX7_isWithin_2 (by decide) (fun hc2 => ?_) (fun hc2 => ?_)
  · replace hw := hw.1 hc2
    exact J14 M _ _ _ hw hP hS (lv_sub hl [] rfl)
  · replace hw := hw.2 hc2
    refine lv_iload_n hx hb dX7_isWithin_5 rfl (lv_at hl 0 rfl) ?_
    refine lv_iload_n hx hb dX7_isWithin_6 rfl (lv_at hl 2 rfl) ?_
    refine lv_icmp_gt (tgt := 14) hx hb dX7_isWithin_7 (by decide) (fun hc7 => ?_) (fun hc7 => ?_)
    · replace hw := hw.1 hc7
      exact J14 M _ _ _ hw hP hS (lv_sub hl [] rfl)
    · replace hw := hw.2 hc7
      refine lv_iconst (v := 1) hx hb dX7_isWithin_10 (by decide) ?_
      refine lv_goto (tgt := 15) hx hb dX7_isWithin_11 (by decide) ?_
      exact J15 1 M _ _ _ hw hP hS (lv_sub hl [] rfl)
-- ===== X7_isNumber
def wpX7_isNumber (p1 : Int32) (M : pt_M) (Q : Int32 → pt_M → Prop) : Prop :=
  wpX7_isWithin p1 (-99) 99 M (fun (r_5 : Int32) (M_5 : pt_M) => pt_zb r_5 ∧ Q r_5 M_5)
set_option maxHeartbeats 4000000 in
set_option maxRecDepth 100000 in
theorem mtX7_isNumber (l : Launch) (D : va_G) (cA : Nat → ClassId) (ad : Nat → Nat) (hI : pt_I ad) (sz : Nat) (p1 : Int32) (M : pt_M) (Q : Int32 → pt_M → Prop) (hw : wpX7_isNumber p1 M Q) : Met l yX7_isNumber (Cond.code yX7_isNumber cX7_isNumber 1 (some .boolean) :: lw_all) ({ frames := 1, cells := 0, slots := 0, locals := 22 } : Room) (va_Pc [.int p1] (pt_P D cA ad sz M)) (va_Qi Q (pt_B D cA ad) (pt_fr ad sz)) 0 0 (pt_fr ad sz) := by
  refine Met.ofW (cc := cX7_isNumber) (maxL := 1) (ret := (some .boolean)) (by decide) rfl ?_
  intro p e s m args below meth c s₁ B hml hv
  obtain ⟨rfl, hsz, hP, hK⟩ := hv
  have hx := B.exec
  have hb := B.bytes
  have hr := B.returns
  have hts0 := atoms_spec (ws := (Cond.code yX7_isNumber cX7_isNumber 1 (some .boolean) :: lw_all)) B.pre
  have hown : s.vm.findClass RX7 = some m.cls := findClass_of_methodNamed B.named
  have hlocks := B.notSynchronized
  subst hsz
  have F : pt_F p m c cX7_isNumber 1 s _ RX7 D cA := ⟨⟨hx, hb, hml, hown, fun w h => hts0 w (List.mem_cons_of_mem _ h)⟩, hK⟩
  have hD : ∀ M, va_D (pt_fr ad s.heap.size) (pt_W cA ad M) := pt_D hI (fun k h => Or.inl ⟨k, h, rfl⟩)
  have hS : va_S (pt_fr ad s.heap.size) s.heap s.heap [] := va_S.rf
  have hl := lv_entry ([.int p1]) (n := 1) (Nat.le_of_ble_eq_true rfl)
  rw [lg_entry_eq]
  generalize (lg_sl ([.int p1]) ++ List.replicate (1 - (lg_sl ([.int p1])).length) Slot.unset).toArray = ls at hl ⊢
  have hl : lv_has ls 1 [(0, .int p1)] := hl
  unfold wpX7_isNumber at hw
  refine lv_iload_n hx hb dX7_isNumber_0 rfl (lv_at hl 0 rfl) ?_
  refine lv_bipush (v := (-99)) hx hb dX7_isNumber_1 (by decide) ?_
  refine lv_bipush (v := 99) hx hb dX7_isNumber_3 (by decide) ?_
  refine pt_calli (pt_runS (n := 3) (As := [.int p1, .int (-99), .int 99]) (rest := []) F hP (mtX7_isWithin l D cA ad hI _ p1 (-99) 99 M _ hw) kw_432 kw_430 kw_52 kw_431 ⟨by decide, by decide, by decide +kernel⟩ ⟨rfl, rfl, Nat.le_of_ble_eq_true rfl, Nat.le_of_ble_eq_true rfl⟩ rfl hl.1 rfl (Nat.le_of_ble_eq_true rfl) dX7_isNumber_5 ⟨Nat.zero_le _, Nat.zero_le _⟩) hS (fun _ h => h) (fun r_5 M_5 H locs hw hP hS _ _ => ?_)
  exact W.zret (v := r_5) (ty := .boolean) hx hb hr (pt_zb_n hw.1) (fun t ht hW => ⟨⟨r_5, M_5, rfl, hw.2, by unfold pt_B; rw [ht]; exact hP⟩, hS.F ht⟩) hS.2.2 dX7_isNumber_8
-- ===== X0_become
def wpX0_become (k0 : Nat) (p1 : Int32) (p2 : Int32) (p3 : Int32) (M : pt_M) (Q : Int32 → pt_M → Prop) : Prop :=
  ∀ x4_4 : Int32, x4_4 = (M k0 0) → ∀ M_8 : pt_M, M_8 = pt_st M k0 0 p1 → ∀ M_13 : pt_M, M_13 = pt_st M_8 k0 1 p2 → ∀ M_18 : pt_M, M_18 = pt_st M_13 k0 2 p3 → Q x4_4 M_18
set_option maxHeartbeats 4000000 in
set_option maxRecDepth 100000 in
theorem mtX0_become (l : Launch) (D : va_G) (cA : Nat → ClassId) (ad : Nat → Nat) (hI : pt_I ad) (sz : Nat) (k0 : Nat) (hk0 : pt_kd k0 = 0) (p1 : Int32) (p2 : Int32) (p3 : Int32) (M : pt_M) (Q : Int32 → pt_M → Prop) (hw : wpX0_become k0 p1 p2 p3 M Q) : Met l yX0_become (Cond.code yX0_become cX0_become 5 (some .int) :: lw_all) ({ frames := 0, cells := 0, slots := 0, locals := 0 } : Room) (va_Pc [.ref (ad k0), .int p1, .int p2, .int p3] (pt_P D cA ad sz M)) (va_Qi Q (pt_B D cA ad) (pt_fr ad sz)) 0 0 (pt_fr ad sz) := by
  refine Met.ofW (cc := cX0_become) (maxL := 5) (ret := (some .int)) (by decide) rfl ?_
  intro p e s m args below meth c s₁ B hml hv
  obtain ⟨rfl, hsz, hP, hK⟩ := hv
  have hx := B.exec
  have hb := B.bytes
  have hr := B.returns
  have hts0 := atoms_spec (ws := (Cond.code yX0_become cX0_become 5 (some .int) :: lw_all)) B.pre
  have hown : s.vm.findClass RX0 = some m.cls := findClass_of_methodNamed B.named
  have hlocks := B.notSynchronized
  subst hsz
  have F : pt_F p m c cX0_become 5 s _ RX0 D cA := ⟨⟨hx, hb, hml, hown, fun w h => hts0 w (List.mem_cons_of_mem _ h)⟩, hK⟩
  have hD : ∀ M, va_D (pt_fr ad s.heap.size) (pt_W cA ad M) := pt_D hI (fun k h => Or.inl ⟨k, h, rfl⟩)
  have hS : va_S (pt_fr ad s.heap.size) s.heap s.heap [] := va_S.rf
  have hl := lv_entry ([.ref (ad k0), .int p1, .int p2, .int p3]) (n := 5) (Nat.le_of_ble_eq_true rfl)
  rw [lg_entry_eq]
  generalize (lg_sl ([.ref (ad k0), .int p1, .int p2, .int p3]) ++ List.replicate (5 - (lg_sl ([.ref (ad k0), .int p1, .int p2, .int p3])).length) Slot.unset).toArray = ls at hl ⊢
  have hl : lv_has ls 5 [(0, .ref (ad k0)), (1, .int p1), (2, .int p2), (3, .int p3)] := hl
  unfold wpX0_become at hw
  refine lv_aload_n hx hb dX0_become_0 rfl (lv_at hl 0 rfl) ?_
  refine pt_get F hP (pt_c0 _ hk0) (pt_l0 hk0) inX0 rfl 0 (by decide) kw_115 rfl rfl dX0_become_1 ?_
  refine lv_topi (fun x4_4 ex4_4 => ?_)
  replace hw := hw x4_4 ex4_4
  refine lv_istore (lv' := [(4, .int x4_4), (0, .ref (ad k0)), (1, .int p1), (2, .int p2), (3, .int p3)]) hx hb dX0_become_4 hl (by decide) rfl (fun ls hl => ?_)
  refine lv_aload_n hx hb dX0_become_6 rfl (lv_at hl 1 rfl) ?_
  refine lv_iload_n hx hb dX0_become_7 rfl (lv_at hl 2 rfl) ?_
  refine pt_put F hP hD hS (pt_c0 _ hk0) (pt_l0 hk0) inX0 tyX0 tyX0_ok nmX0 rfl 0 (by decide) kw_115 rfl rfl rfl rfl (Nat.le_of_ble_eq_true rfl) (pt_c0 _ hk0) dX0_become_8 (fun M_8 H locs eM_8 hP hS => ?_)
  replace hw := hw M_8 eM_8
  refine lv_aload_n hx hb dX0_become_11 rfl (lv_at hl 1 rfl) ?_
  refine lv_iload_n hx hb dX0_become_12 rfl (lv_at hl 3 rfl) ?_
  refine pt_put F hP hD hS (pt_c0 _ hk0) (pt_l0 hk0) inX0 tyX0 tyX0_ok nmX0 rfl 1 (by decide) kw_117 rfl rfl rfl rfl (Nat.le_of_ble_eq_true rfl) (pt_c0 _ hk0) dX0_become_13 (fun M_13 H locs eM_13 hP hS => ?_)
  replace hw := hw M_13 eM_13
  refine lv_aload_n hx hb dX0_become_16 rfl (lv_at hl 1 rfl) ?_
  refine lv_iload_n hx hb dX0_become_17 rfl (lv_at hl 4 rfl) ?_
  refine pt_put F hP hD hS (pt_c0 _ hk0) (pt_l0 hk0) inX0 tyX0 tyX0_ok nmX0 rfl 2 (by decide) kw_119 rfl rfl rfl rfl (Nat.le_of_ble_eq_true rfl) (pt_c0 _ hk0) dX0_become_18 (fun M_18 H locs eM_18 hP hS => ?_)
  replace hw := hw M_18 eM_18
  refine lv_iload hx hb dX0_become_21 (lv_at hl 0 rfl) ?_
  exact W.iret (v := x4_4) hx hb hr (fun t ht hW => ⟨⟨x4_4, M_18, rfl, hw, by unfold pt_B; rw [ht]; exact hP⟩, hS.F ht⟩) hS.2.2 dX0_become_23
-- ===== X5_isMark
def wjX5_isMark_21 (k0 : Nat) (Q : Int32 → pt_M → Prop)  (xs0 : Int32) (M : pt_M) : Prop :=
  pt_zb xs0 ∧ Q xs0 M
def wjX5_isMark_16 (k0 : Nat) (Q : Int32 → pt_M → Prop)   (M : pt_M) : Prop :=
  wjX5_isMark_21 k0 Q 1 M
def wpX5_isMark (k0 : Nat) (M : pt_M) (Q : Int32 → pt_M → Prop) : Prop :=
  ((M k0 2) = 3 → wjX5_isMark_16 k0 Q M) ∧ (¬ (M k0 2) = 3 → (¬ (M k0 2) = 4 → wjX5_isMark_21 k0 Q 0 M) ∧ ((M k0 2) = 4 → wjX5_isMark_16 k0 Q M))
set_option maxHeartbeats 4000000 in
set_option maxRecDepth 100000 in
theorem mtX5_isMark (l : Launch) (D : va_G) (cA : Nat → ClassId) (ad : Nat → Nat) (hI : pt_I ad) (sz : Nat) (k0 : Nat) (hk0 : pt_kd k0 = 5) (M : pt_M) (Q : Int32 → pt_M → Prop) (hw : wpX5_isMark k0 M Q) : Met l yX5_isMark (Cond.code yX5_isMark cX5_isMark 1 (some .boolean) :: lw_all) ({ frames := 0, cells := 0, slots := 0, locals := 0 } : Room) (va_Pc [.ref (ad k0)] (pt_P D cA ad sz M)) (va_Qi Q (pt_B D cA ad) (pt_fr ad sz)) 0 0 (pt_fr ad sz) := by
  refine Met.ofW (cc := cX5_isMark) (maxL := 1) (ret := (some .boolean)) (by decide) rfl ?_
  intro p e s m args below meth c s₁ B hml hv
  obtain ⟨rfl, hsz, hP, hK⟩ := hv
  have hx := B.exec
  have hb := B.bytes
  have hr := B.returns
  have hts0 := atoms_spec (ws := (Cond.code yX5_isMark cX5_isMark 1 (some .boolean) :: lw_all)) B.pre
  have hown : s.vm.findClass RX5 = some m.cls := findClass_of_methodNamed B.named
  have hlocks := B.notSynchronized
  subst hsz
  have F : pt_F p m c cX5_isMark 1 s _ RX5 D cA := ⟨⟨hx, hb, hml, hown, fun w h => hts0 w (List.mem_cons_of_mem _ h)⟩, hK⟩
  have hD : ∀ M, va_D (pt_fr ad s.heap.size) (pt_W cA ad M) := pt_D hI (fun k h => Or.inl ⟨k, h, rfl⟩)
  have hS : va_S (pt_fr ad s.heap.size) s.heap s.heap [] := va_S.rf
  have hl := lv_entry ([.ref (ad k0)]) (n := 1) (Nat.le_of_ble_eq_true rfl)
  rw [lg_entry_eq]
  generalize (lg_sl ([.ref (ad k0)]) ++ List.replicate (1 - (lg_sl ([.ref (ad k0)])).length) Slot.unset).toArray = ls at hl ⊢
  have hl : lv_has ls 1 [(0, .ref (ad k0))] := hl
  have J21 : ∀ (xs0 : Int32) (M : pt_M) (H : Heap) (locs : List Loc) (ls : Array Slot), wjX5_isMark_21 k0 Q xs0 M → va_P D pt_cl (pt_W cA ad M) H → va_S (pt_fr ad s.heap.size) s.heap H locs → lv_has ls 1 [] → W p l e (headSpec (Cond.code yX5_isMark cX5_isMark 1 (some .boolean) :: lw_all) ({ frames := 0, cells := 0, slots := 0, locals := 0 } : Room)).room s m ([.ref (ad k0)] : List Value).toArray below meth c H locs 0 0 (MQ below (va_Qi Q (pt_B D cA ad) (pt_fr ad s.heap.size)) ([.ref (ad k0)] : List Value).toArray s 0 0 (pt_fr ad s.heap.size)) (F0 m 21 ls [.int xs0]) := by
    intro xs0 M H locs ls hw hP hS hl
    unfold wjX5_isMark_21 at hw
    exact W.zret (v := xs0) (ty := .boolean) hx hb hr (pt_zb_n hw.1) (fun t ht hW => ⟨⟨xs0, M, rfl, hw.2, by unfold pt_B; rw [ht]; exact hP⟩, hS.F ht⟩) hS.2.2 dX5_isMark_21
  have J16 : ∀ (M : pt_M) (H : Heap) (locs : List Loc) (ls : Array Slot), wjX5_isMark_16 k0 Q M → va_P D pt_cl (pt_W cA ad M) H → va_S (pt_fr ad s.heap.size) s.heap H locs → lv_has ls 1 [] → W p l e (headSpec (Cond.code yX5_isMark cX5_isMark 1 (some .boolean) :: lw_all) ({ frames := 0, cells := 0, slots := 0, locals := 0 } : Room)).room s m ([.ref (ad k0)] : List Value).toArray below meth c H locs 0 0 (MQ below (va_Qi Q (pt_B D cA ad) (pt_fr ad s.heap.size)) ([.ref (ad k0)] : List Value).toArray s 0 0 (pt_fr ad s.heap.size)) (F0 m 16 ls []) := by
    intro M H locs ls hw hP hS hl
    unfold wjX5_isMark_16 at hw
    refine lv_iconst (v := 1) hx hb dX5_isMark_16 (by decide) ?_
    refine lv_goto (tgt := 21) hx hb dX5_isMark_17 (by decide) ?_
    exact J21 1 M _ _ _ hw hP hS (lv_sub hl [] rfl)
  unfold wpX5_isMark at hw
  refine lv_aload_n hx hb dX5_isMark_0 rfl (lv_at hl 0 rfl) ?_
  refine pt_get F hP (pt_c5 _ hk0) (pt_l5 hk0) inX5 rfl 2 (by decide) kw_135 rfl rfl dX5_isMark_1 ?_
  refine lv_iconst (v := 3) hx hb dX5_isMark_4 (by decide) ?_
  refine lv_icmp_eq (tgt := 16) hx hb dX5_isMark_5 (by decide) (fun hc5 => ?_) (fun hc5 => ?_)
  · replace hw := hw.1 hc5
    exact J16 M _ _ _ hw hP hS (lv_sub hl [] rfl)
  · replace hw := hw.2 hc5
    refine lv_aload_n hx hb dX5_isMark_8 rfl (lv_at hl 0 rfl) ?_
    refine pt_get F hP (pt_c5 _ hk0) (pt_l5 hk0) inX5 rfl 2 (by decide) kw_135 rfl rfl dX5_isMark_9 ?_
    refine lv_iconst (v := 4) hx hb dX5_isMark_12 (by decide) ?_
    refine lv_icmp_ne (tgt := 20) hx hb dX5_isMark_13 (by decide) (fun hc13 => ?_) (fun hc13 => ?_)
    · replace hw := hw.1 hc13
      refine lv_iconst (v := 0) hx hb dX5_isMark_20 (by decide) ?_
      exact J21 0 M _ _ _ hw hP hS (lv_sub hl [] rfl)
    · replace hw := hw.2 hc13
      exact J16 M _ _ _ hw hP hS (lv_sub hl [] rfl)
-- ===== X5_isHolder
def wjX5_isHolder_20 (k0 : Nat) (Q : Int32 → pt_M → Prop)  (xs0 : Int32) (M : pt_M) : Prop :=
  pt_zb xs0 ∧ Q xs0 M
def wjX5_isHolder_15 (k0 : Nat) (Q : Int32 → pt_M → Prop)   (M : pt_M) : Prop :=
  wjX5_isHolder_20 k0 Q 1 M
def wpX5_isHolder (k0 : Nat) (M : pt_M) (Q : Int32 → pt_M → Prop) : Prop :=
  ((M k0 2) = 0 → wjX5_isHolder_15 k0 Q M) ∧ (¬ (M k0 2) = 0 → (¬ (M k0 2) = 1 → wjX5_isHolder_20 k0 Q 0 M) ∧ ((M k0 2) = 1 → wjX5_isHolder_15 k0 Q M))
set_option maxHeartbeats 4000000 in
set_option maxRecDepth 100000 in
theorem mtX5_isHolder (l : Launch) (D : va_G) (cA : Nat → ClassId) (ad : Nat → Nat) (hI : pt_I ad) (sz : Nat) (k0 : Nat) (hk0 : pt_kd k0 = 5) (M : pt_M) (Q : Int32 → pt_M → Prop) (hw : wpX5_isHolder k0 M Q) : Met l yX5_isHolder (Cond.code yX5_isHolder cX5_isHolder 1 (some .boolean) :: lw_all) ({ frames := 0, cells := 0, slots := 0, locals := 0 } : Room) (va_Pc [.ref (ad k0)] (pt_P D cA ad sz M)) (va_Qi Q (pt_B D cA ad) (pt_fr ad sz)) 0 0 (pt_fr ad sz) := by
  refine Met.ofW (cc := cX5_isHolder) (maxL := 1) (ret := (some .boolean)) (by decide) rfl ?_
  intro p e s m args below meth c s₁ B hml hv
  obtain ⟨rfl, hsz, hP, hK⟩ := hv
  have hx := B.exec
  have hb := B.bytes
  have hr := B.returns
  have hts0 := atoms_spec (ws := (Cond.code yX5_isHolder cX5_isHolder 1 (some .boolean) :: lw_all)) B.pre
  have hown : s.vm.findClass RX5 = some m.cls := findClass_of_methodNamed B.named
  have hlocks := B.notSynchronized
  subst hsz
  have F : pt_F p m c cX5_isHolder 1 s _ RX5 D cA := ⟨⟨hx, hb, hml, hown, fun w h => hts0 w (List.mem_cons_of_mem _ h)⟩, hK⟩
  have hD : ∀ M, va_D (pt_fr ad s.heap.size) (pt_W cA ad M) := pt_D hI (fun k h => Or.inl ⟨k, h, rfl⟩)
  have hS : va_S (pt_fr ad s.heap.size) s.heap s.heap [] := va_S.rf
  have hl := lv_entry ([.ref (ad k0)]) (n := 1) (Nat.le_of_ble_eq_true rfl)
  rw [lg_entry_eq]
  generalize (lg_sl ([.ref (ad k0)]) ++ List.replicate (1 - (lg_sl ([.ref (ad k0)])).length) Slot.unset).toArray = ls at hl ⊢
  have hl : lv_has ls 1 [(0, .ref (ad k0))] := hl
  have J20 : ∀ (xs0 : Int32) (M : pt_M) (H : Heap) (locs : List Loc) (ls : Array Slot), wjX5_isHolder_20 k0 Q xs0 M → va_P D pt_cl (pt_W cA ad M) H → va_S (pt_fr ad s.heap.size) s.heap H locs → lv_has ls 1 [] → W p l e (headSpec (Cond.code yX5_isHolder cX5_isHolder 1 (some .boolean) :: lw_all) ({ frames := 0, cells := 0, slots := 0, locals := 0 } : Room)).room s m ([.ref (ad k0)] : List Value).toArray below meth c H locs 0 0 (MQ below (va_Qi Q (pt_B D cA ad) (pt_fr ad s.heap.size)) ([.ref (ad k0)] : List Value).toArray s 0 0 (pt_fr ad s.heap.size)) (F0 m 20 ls [.int xs0]) := by
    intro xs0 M H locs ls hw hP hS hl
    unfold wjX5_isHolder_20 at hw
    exact W.zret (v := xs0) (ty := .boolean) hx hb hr (pt_zb_n hw.1) (fun t ht hW => ⟨⟨xs0, M, rfl, hw.2, by unfold pt_B; rw [ht]; exact hP⟩, hS.F ht⟩) hS.2.2 dX5_isHolder_20
  have J15 : ∀ (M : pt_M) (H : Heap) (locs : List Loc) (ls : Array Slot), wjX5_isHolder_15 k0 Q M → va_P D pt_cl (pt_W cA ad M) H → va_S (pt_fr ad s.heap.size) s.heap H locs → lv_has ls 1 [] → W p l e (headSpec (Cond.code yX5_isHolder cX5_isHolder 1 (some .boolean) :: lw_all) ({ frames := 0, cells := 0, slots := 0, locals := 0 } : Room)).room s m ([.ref (ad k0)] : List Value).toArray below meth c H locs 0 0 (MQ below (va_Qi Q (pt_B D cA ad) (pt_fr ad s.heap.size)) ([.ref (ad k0)] : List Value).toArray s 0 0 (pt_fr ad s.heap.size)) (F0 m 15 ls []) := by
    intro M H locs ls hw hP hS hl
    unfold wjX5_isHolder_15 at hw
    refine lv_iconst (v := 1) hx hb dX5_isHolder_15 (by decide) ?_
    refine lv_goto (tgt := 20) hx hb dX5_isHolder_16 (by decide) ?_
    exact J20 1 M _ _ _ hw hP hS (lv_sub hl [] rfl)
  unfold wpX5_isHolder at hw
  refine lv_aload_n hx hb dX5_isHolder_0 rfl (lv_at hl 0 rfl) ?_
  refine pt_get F hP (pt_c5 _ hk0) (pt_l5 hk0) inX5 rfl 2 (by decide) kw_135 rfl rfl dX5_isHolder_1 ?_
  refine lv_if_eq (tgt := 15) hx hb dX5_isHolder_4 (by decide) (fun hc4 => ?_) (fun hc4 => ?_)
  · replace hw := hw.1 hc4
    exact J15 M _ _ _ hw hP hS (lv_sub hl [] rfl)
  · replace hw := hw.2 hc4
    refine lv_aload_n hx hb dX5_isHolder_7 rfl (lv_at hl 0 rfl) ?_
    refine pt_get F hP (pt_c5 _ hk0) (pt_l5 hk0) inX5 rfl 2 (by decide) kw_135 rfl rfl dX5_isHolder_8 ?_
    refine lv_iconst (v := 1) hx hb dX5_isHolder_11 (by decide) ?_
    refine lv_icmp_ne (tgt := 19) hx hb dX5_isHolder_12 (by decide) (fun hc12 => ?_) (fun hc12 => ?_)
    · replace hw := hw.1 hc12
      refine lv_iconst (v := 0) hx hb dX5_isHolder_19 (by decide) ?_
      exact J20 0 M _ _ _ hw hP hS (lv_sub hl [] rfl)
    · replace hw := hw.2 hc12
      exact J15 M _ _ _ hw hP hS (lv_sub hl [] rfl)
-- ===== X5_putFirst
def wpX5_putFirst (k0 : Nat) (p1 : Int32) (M : pt_M) (Q : pt_M → Prop) : Prop :=
  ∀ M_2 : pt_M, M_2 = pt_st M k0 4 p1 → wpX7_setOf p1 M_2 (fun (r_7 : Int32) (M_7 : pt_M) => ∀ M_10 : pt_M, M_10 = pt_st M_7 k0 6 r_7 → Q M_10)
set_option maxHeartbeats 4000000 in
set_option maxRecDepth 100000 in
theorem mtX5_putFirst (l : Launch) (D : va_G) (cA : Nat → ClassId) (ad : Nat → Nat) (hI : pt_I ad) (sz : Nat) (k0 : Nat) (hk0 : pt_kd k0 = 5) (p1 : Int32) (M : pt_M) (Q : pt_M → Prop) (hw : wpX5_putFirst k0 p1 M Q) : Met l yX5_putFirst (Cond.code yX5_putFirst cX5_putFirst 2 none :: lw_all) ({ frames := 1, cells := 0, slots := 0, locals := 20 } : Room) (va_Pc [.ref (ad k0), .int p1] (pt_P D cA ad sz M)) (va_Qv Q (pt_B D cA ad) (pt_fr ad sz)) 0 0 (pt_fr ad sz) := by
  refine Met.ofW (cc := cX5_putFirst) (maxL := 2) (ret := none) (by decide) rfl ?_
  intro p e s m args below meth c s₁ B hml hv
  obtain ⟨rfl, hsz, hP, hK⟩ := hv
  have hx := B.exec
  have hb := B.bytes
  have hr := B.returns
  have hts0 := atoms_spec (ws := (Cond.code yX5_putFirst cX5_putFirst 2 none :: lw_all)) B.pre
  have hown : s.vm.findClass RX5 = some m.cls := findClass_of_methodNamed B.named
  have hlocks := B.notSynchronized
  subst hsz
  have F : pt_F p m c cX5_putFirst 2 s _ RX5 D cA := ⟨⟨hx, hb, hml, hown, fun w h => hts0 w (List.mem_cons_of_mem _ h)⟩, hK⟩
  have hD : ∀ M, va_D (pt_fr ad s.heap.size) (pt_W cA ad M) := pt_D hI (fun k h => Or.inl ⟨k, h, rfl⟩)
  have hS : va_S (pt_fr ad s.heap.size) s.heap s.heap [] := va_S.rf
  have hl := lv_entry ([.ref (ad k0), .int p1]) (n := 2) (Nat.le_of_ble_eq_true rfl)
  rw [lg_entry_eq]
  generalize (lg_sl ([.ref (ad k0), .int p1]) ++ List.replicate (2 - (lg_sl ([.ref (ad k0), .int p1])).length) Slot.unset).toArray = ls at hl ⊢
  have hl : lv_has ls 2 [(0, .ref (ad k0)), (1, .int p1)] := hl
  unfold wpX5_putFirst at hw
  refine lv_aload_n hx hb dX5_putFirst_0 rfl (lv_at hl 0 rfl) ?_
  refine lv_iload_n hx hb dX5_putFirst_1 rfl (lv_at hl 1 rfl) ?_
  refine pt_put F hP hD hS (pt_c5 _ hk0) (pt_l5 hk0) inX5 tyX5 tyX5_ok nmX5 rfl 4 (by decide) kw_143 rfl rfl rfl rfl (Nat.le_of_ble_eq_true rfl) (pt_c5 _ hk0) dX5_putFirst_2 (fun M_2 H locs eM_2 hP hS => ?_)
  replace hw := hw M_2 eM_2
  refine lv_aload_n hx hb dX5_putFirst_5 rfl (lv_at hl 0 rfl) ?_
  refine lv_iload_n hx hb dX5_putFirst_6 rfl (lv_at hl 1 rfl) ?_
  refine pt_calli (pt_runSN (n := 1) (As := [.int p1]) (rest := [.ref (ad k0)]) F hP (mtX7_setOf l D cA ad hI _ p1 M_2 _ hw) kw_103 kw_628 kw_52 kw_102 ⟨by decide, by decide, by decide +kernel⟩ ⟨rfl, rfl, Nat.le_of_ble_eq_true rfl, Nat.le_of_ble_eq_true rfl⟩ rfl hl.1 rfl (Nat.le_of_ble_eq_true rfl) dX5_putFirst_7 ⟨Nat.zero_le _, Nat.zero_le _⟩) hS (fun _ h => h) (fun r_7 M_7 H locs hw hP hS _ _ => ?_)
  refine pt_put F hP hD hS (pt_c5 _ hk0) (pt_l5 hk0) inX5 tyX5 tyX5_ok nmX5 rfl 6 (by decide) kw_149 rfl rfl rfl rfl (Nat.le_of_ble_eq_true rfl) (pt_c5 _ hk0) dX5_putFirst_10 (fun M_10 H locs eM_10 hP hS => ?_)
  replace hw := hw M_10 eM_10
  exact W.vret hx hb hr (fun t ht hW => ⟨⟨M_10, rfl, hw, by unfold pt_B; rw [ht]; exact hP⟩, hS.F ht⟩) hS.2.2 dX5_putFirst_13
-- ===== X5_putPart
def wjX5_putPart_48 (k0 : Nat) (p1 : Int32) (Q : pt_M → Prop)   (M : pt_M) : Prop :=
  Q M
def wjX5_putPart_19 (k0 : Nat) (p1 : Int32) (Q : pt_M → Prop)   (M : pt_M) : Prop :=
  wpX7_setOf p1 M (fun (r_25 : Int32) (M_25 : pt_M) => ∀ M_29 : pt_M, M_29 = pt_st M_25 k0 5 ((M k0 5) ||| r_25) → (¬ (M_29 k0 2) = 1 → wjX5_putPart_48 k0 p1 Q M_29) ∧ ((M_29 k0 2) = 1 → ∀ M_45 : pt_M, M_45 = pt_st M_29 k0 6 (M_29 k0 5) → wjX5_putPart_48 k0 p1 Q M_45))
def wpX5_putPart (k0 : Nat) (p1 : Int32) (M : pt_M) (Q : pt_M → Prop) : Prop :=
  (¬ (M k0 2) = 0 → wjX5_putPart_19 k0 p1 Q M) ∧ ((M k0 2) = 0 → (¬ (M k0 5) = 0 → wjX5_putPart_19 k0 p1 Q M) ∧ ((M k0 5) = 0 → wpX5_putFirst k0 p1 M (fun (M_16 : pt_M) => wjX5_putPart_19 k0 p1 Q M_16)))
set_option maxHeartbeats 4000000 in
set_option maxRecDepth 100000 in
theorem mtX5_putPart (l : Launch) (D : va_G) (cA : Nat → ClassId) (ad : Nat → Nat) (hI : pt_I ad) (sz : Nat) (k0 : Nat) (hk0 : pt_kd k0 = 5) (p1 : Int32) (M : pt_M) (Q : pt_M → Prop) (hw : wpX5_putPart k0 p1 M Q) : Met l yX5_putPart (Cond.code yX5_putPart cX5_putPart 2 none :: lw_all) ({ frames := 2, cells := 0, slots := 0, locals := 41 } : Room) (va_Pc [.ref (ad k0), .int p1] (pt_P D cA ad sz M)) (va_Qv Q (pt_B D cA ad) (pt_fr ad sz)) 0 0 (pt_fr ad sz) := by
  refine Met.ofW (cc := cX5_putPart) (maxL := 2) (ret := none) (by decide) rfl ?_
  intro p e s m args below meth c s₁ B hml hv
  obtain ⟨rfl, hsz, hP, hK⟩ := hv
  have hx := B.exec
  have hb := B.bytes
  have hr := B.returns
  have hts0 := atoms_spec (ws := (Cond.code yX5_putPart cX5_putPart 2 none :: lw_all)) B.pre
  have hown : s.vm.findClass RX5 = some m.cls := findClass_of_methodNamed B.named
  have hlocks := B.notSynchronized
  subst hsz
  have F : pt_F p m c cX5_putPart 2 s _ RX5 D cA := ⟨⟨hx, hb, hml, hown, fun w h => hts0 w (List.mem_cons_of_mem _ h)⟩, hK⟩
  have hD : ∀ M, va_D (pt_fr ad s.heap.size) (pt_W cA ad M) := pt_D hI (fun k h => Or.inl ⟨k, h, rfl⟩)
  have hS : va_S (pt_fr ad s.heap.size) s.heap s.heap [] := va_S.rf
  have hl := lv_entry ([.ref (ad k0), .int p1]) (n := 2) (Nat.le_of_ble_eq_true rfl)
  rw [lg_entry_eq]
  generalize (lg_sl ([.ref (ad k0), .int p1]) ++ List.replicate (2 - (lg_sl ([.ref (ad k0), .int p1])).length) Slot.unset).toArray = ls at hl ⊢
  have hl : lv_has ls 2 [(0, .ref (ad k0)), (1, .int p1)] := hl
  have J48 : ∀ (M : pt_M) (H : Heap) (locs : List Loc) (ls : Array Slot), wjX5_putPart_48 k0 p1 Q M → va_P D pt_cl (pt_W cA ad M) H → va_S (pt_fr ad s.heap.size) s.heap H locs → lv_has ls 2 [] → W p l e (headSpec (Cond.code yX5_putPart cX5_putPart 2 none :: lw_all) ({ frames := 2, cells := 0, slots := 0, locals := 41 } : Room)).room s m ([.ref (ad k0), .int p1] : List Value).toArray below meth c H locs 0 0 (MQ below (va_Qv Q (pt_B D cA ad) (pt_fr ad s.heap.size)) ([.ref (ad k0), .int p1] : List Value).toArray s 0 0 (pt_fr ad s.heap.size)) (F0 m 48 ls []) := by
    intro M H locs ls hw hP hS hl
    unfold wjX5_putPart_48 at hw
    exact W.vret hx hb hr (fun t ht hW => ⟨⟨M, rfl, hw, by unfold pt_B; rw [ht]; exact hP⟩, hS.F ht⟩) hS.2.2 dX5_putPart_48
  have J19 : ∀ (M : pt_M) (H : Heap) (locs : List Loc) (ls : Array Slot), wjX5_putPart_19 k0 p1 Q M → va_P D pt_cl (pt_W cA ad M) H → va_S (pt_fr ad s.heap.size) s.heap H locs → lv_has ls 2 [(0, .ref (ad k0)), (1, .int p1)] → W p l e (headSpec (Cond.code yX5_putPart cX5_putPart 2 none :: lw_all) ({ frames := 2, cells := 0, slots := 0, locals := 41 } : Room)).room s m ([.ref (ad k0), .int p1] : List Value).toArray below meth c H locs 0 0 (MQ below (va_Qv Q (pt_B D cA ad) (pt_fr ad s.heap.size)) ([.ref (ad k0), .int p1] : List Value).toArray s 0 0 (pt_fr ad s.heap.size)) (F0 m 19 ls []) := by
    intro M H locs ls hw hP hS hl
    unfold wjX5_putPart_19 at hw
    refine lv_aload_n hx hb dX5_putPart_19 rfl (lv_at hl 0 rfl) ?_
    refine lv_dup hx hb dX5_putPart_20 rfl ?_
    refine pt_get F hP (pt_c5 _ hk0) (pt_l5 hk0) inX5 rfl 5 (by decide) kw_147 rfl rfl dX5_putPart_21 ?_
    refine lv_iload_n hx hb dX5_putPart_24 rfl (lv_at hl 1 rfl) ?_
    refine pt_calli (pt_runSN (n := 1) (As := [.int p1]) (rest := [.int (M k0 5), .ref (ad k0)]) F hP (mtX7_setOf l D cA ad hI _ p1 M _ hw) kw_103 kw_628 kw_52 kw_102 ⟨by decide, by decide, by decide +kernel⟩ ⟨rfl, rfl, Nat.le_of_ble_eq_true rfl, Nat.le_of_ble_eq_true rfl⟩ rfl hl.1 rfl (Nat.le_of_ble_eq_true rfl) dX5_putPart_25 ⟨Nat.zero_le _, Nat.zero_le _⟩) hS (fun _ h => h) (fun r_25 M_25 H locs hw hP hS _ _ => ?_)
    refine lv_ior hx hb dX5_putPart_28 ?_
    refine pt_put F hP hD hS (pt_c5 _ hk0) (pt_l5 hk0) inX5 tyX5 tyX5_ok nmX5 rfl 5 (by decide) kw_147 rfl rfl rfl rfl (Nat.le_of_ble_eq_true rfl) (pt_c5 _ hk0) dX5_putPart_29 (fun M_29 H locs eM_29 hP hS => ?_)
    replace hw := hw M_29 eM_29
    refine lv_aload_n hx hb dX5_putPart_32 rfl (lv_at hl 0 rfl) ?_
    refine pt_get F hP (pt_c5 _ hk0) (pt_l5 hk0) inX5 rfl 2 (by decide) kw_135 rfl rfl dX5_putPart_33 ?_
    refine lv_iconst (v := 1) hx hb dX5_putPart_36 (by decide) ?_
    refine lv_icmp_ne (tgt := 48) hx hb dX5_putPart_37 (by decide) (fun hc37 => ?_) (fun hc37 => ?_)
    · replace hw := hw.1 hc37
      exact J48 M_29 _ _ _ hw hP hS (lv_sub hl [] rfl)
    · replace hw := hw.2 hc37
      refine lv_aload_n hx hb dX5_putPart_40 rfl (lv_at hl 0 rfl) ?_
      refine lv_aload_n hx hb dX5_putPart_41 rfl (lv_at hl 0 rfl) ?_
      refine pt_get F hP (pt_c5 _ hk0) (pt_l5 hk0) inX5 rfl 5 (by decide) kw_147 rfl rfl dX5_putPart_42 ?_
      refine pt_put F hP hD hS (pt_c5 _ hk0) (pt_l5 hk0) inX5 tyX5 tyX5_ok nmX5 rfl 6 (by decide) kw_149 rfl rfl rfl rfl (Nat.le_of_ble_eq_true rfl) (pt_c5 _ hk0) dX5_putPart_45 (fun M_45 H locs eM_45 hP hS => ?_)
      replace hw := hw M_45 eM_45
      exact J48 M_45 _ _ _ hw hP hS (lv_sub hl [] rfl)
  unfold wpX5_putPart at hw
  refine lv_aload_n hx hb dX5_putPart_0 rfl (lv_at hl 0 rfl) ?_
  refine pt_get F hP (pt_c5 _ hk0) (pt_l5 hk0) inX5 rfl 2 (by decide) kw_135 rfl rfl dX5_putPart_1 ?_
  refine lv_if_ne (tgt := 19) hx hb dX5_putPart_4 (by decide) (fun hc4 => ?_) (fun hc4 => ?_)
  · replace hw := hw.1 hc4
    exact J19 M _ _ _ hw hP hS (lv_sub hl [0, 1] rfl)
  · replace hw := hw.2 hc4
    refine lv_aload_n hx hb dX5_putPart_7 rfl (lv_at hl 0 rfl) ?_
    refine pt_get F hP (pt_c5 _ hk0) (pt_l5 hk0) inX5 rfl 5 (by decide) kw_147 rfl rfl dX5_putPart_8 ?_
    refine lv_if_ne (tgt := 19) hx hb dX5_putPart_11 (by decide) (fun hc11 => ?_) (fun hc11 => ?_)
    · replace hw := hw.1 hc11
      exact J19 M _ _ _ hw hP hS (lv_sub hl [0, 1] rfl)
    · replace hw := hw.2 hc11
      refine lv_aload_n hx hb dX5_putPart_14 rfl (lv_at hl 0 rfl) ?_
      refine lv_iload_n hx hb dX5_putPart_15 rfl (lv_at hl 1 rfl) ?_
      refine pt_callv (pt_runV (n := 1) (As := [.int p1]) (rest := []) F hP (pt_c5 _ hk0) (pt_l5 hk0) rfl (mtX5_putFirst l D cA ad hI _ k0 hk0 p1 M _ hw) kw_627 kw_624 kw_54 kw_625 kw_626 ⟨by decide, by decide, by decide +kernel⟩ ⟨rfl, rfl, Nat.le_of_ble_eq_true rfl, Nat.le_of_ble_eq_true rfl⟩ rfl hl.1 rfl (Nat.le_of_ble_eq_true rfl) dX5_putPart_16 ⟨Nat.zero_le _, Nat.zero_le _⟩) hS (fun _ h => h) (fun M_16 H locs hw hP hS _ _ => ?_)
      exact J19 M_16 _ _ _ hw hP hS (lv_sub hl [0, 1] rfl)
-- ===== X6_isAllowed
def wjX6_isAllowed_88 (k0 : Nat) (k1 : Nat) (Q : Int32 → pt_M → Prop)  (xs0 : Int32) (M : pt_M) : Prop :=
  pt_zb xs0 ∧ Q xs0 M
def wjX6_isAllowed_69 (k0 : Nat) (k1 : Nat) (Q : Int32 → pt_M → Prop)  (xs0 : Int32) (M : pt_M) : Prop :=
  pt_zb xs0 ∧ Q xs0 M
def wjX6_isAllowed_50 (k0 : Nat) (k1 : Nat) (Q : Int32 → pt_M → Prop)  (xs0 : Int32) (M : pt_M) : Prop :=
  pt_zb xs0 ∧ Q xs0 M
def wpX6_isAllowed (k0 : Nat) (k1 : Nat) (M : pt_M) (Q : Int32 → pt_M → Prop) : Prop :=
  ((M k0 6) = 1 → vp_in (M k0 7) 4 ∧ (((M k0 8) ≤ (M k1 (Int32.toNatClampNeg (M k0 7))) → wjX6_isAllowed_50 k0 k1 Q 0 M) ∧ (¬ (M k0 8) ≤ (M k1 (Int32.toNatClampNeg (M k0 7))) → wjX6_isAllowed_50 k0 k1 Q 1 M))) ∧ (¬ (M k0 6) = 1 → ((M k0 6) = 2 → vp_in (M k0 7) 4 ∧ ((¬ (M k1 (Int32.toNatClampNeg (M k0 7))) = (M k0 8) → wjX6_isAllowed_69 k0 k1 Q 0 M) ∧ ((M k1 (Int32.toNatClampNeg (M k0 7))) = (M k0 8) → wjX6_isAllowed_69 k0 k1 Q 1 M))) ∧ (¬ (M k0 6) = 2 → ((M k0 6) = 3 → vp_in (M k0 7) 4 ∧ (((M k1 (Int32.toNatClampNeg (M k0 7))) ≤ (M k0 8) → wjX6_isAllowed_88 k0 k1 Q 0 M) ∧ (¬ (M k1 (Int32.toNatClampNeg (M k0 7))) ≤ (M k0 8) → wjX6_isAllowed_88 k0 k1 Q 1 M))) ∧ (¬ (M k0 6) = 3 → Q 1 M)))
set_option maxHeartbeats 4000000 in
set_option maxRecDepth 100000 in
theorem mtX6_isAllowed (l : Launch) (D : va_G) (cA : Nat → ClassId) (ad : Nat → Nat) (hI : pt_I ad) (sz : Nat) (k0 : Nat) (hk0 : pt_kd k0 = 6) (k1 : Nat) (hk1 : pt_kd k1 = 8 ∧ pt_len k1 = 4) (M : pt_M) (Q : Int32 → pt_M → Prop) (hw : wpX6_isAllowed k0 k1 M Q) : Met l yX6_isAllowed (Cond.code yX6_isAllowed cX6_isAllowed 2 (some .boolean) :: lw_all) ({ frames := 0, cells := 0, slots := 0, locals := 0 } : Room) (va_Pc [.ref (ad k0), .ref (ad k1)] (pt_P D cA ad sz M)) (va_Qi Q (pt_B D cA ad) (pt_fr ad sz)) 0 0 (pt_fr ad sz) := by
  refine Met.ofW (cc := cX6_isAllowed) (maxL := 2) (ret := (some .boolean)) (by decide) rfl ?_
  intro p e s m args below meth c s₁ B hml hv
  obtain ⟨rfl, hsz, hP, hK⟩ := hv
  have hx := B.exec
  have hb := B.bytes
  have hr := B.returns
  have hts0 := atoms_spec (ws := (Cond.code yX6_isAllowed cX6_isAllowed 2 (some .boolean) :: lw_all)) B.pre
  have hown : s.vm.findClass RX6 = some m.cls := findClass_of_methodNamed B.named
  have hlocks := B.notSynchronized
  subst hsz
  have F : pt_F p m c cX6_isAllowed 2 s _ RX6 D cA := ⟨⟨hx, hb, hml, hown, fun w h => hts0 w (List.mem_cons_of_mem _ h)⟩, hK⟩
  have hD : ∀ M, va_D (pt_fr ad s.heap.size) (pt_W cA ad M) := pt_D hI (fun k h => Or.inl ⟨k, h, rfl⟩)
  have hS : va_S (pt_fr ad s.heap.size) s.heap s.heap [] := va_S.rf
  have hl := lv_entry ([.ref (ad k0), .ref (ad k1)]) (n := 2) (Nat.le_of_ble_eq_true rfl)
  rw [lg_entry_eq]
  generalize (lg_sl ([.ref (ad k0), .ref (ad k1)]) ++ List.replicate (2 - (lg_sl ([.ref (ad k0), .ref (ad k1)])).length) Slot.unset).toArray = ls at hl ⊢
  have hl : lv_has ls 2 [(0, .ref (ad k0)), (1, .ref (ad k1))] := hl
  have J88 : ∀ (xs0 : Int32) (M : pt_M) (H : Heap) (locs : List Loc) (ls : Array Slot), wjX6_isAllowed_88 k0 k1 Q xs0 M → va_P D pt_cl (pt_W cA ad M) H → va_S (pt_fr ad s.heap.size) s.heap H locs → lv_has ls 2 [] → W p l e (headSpec (Cond.code yX6_isAllowed cX6_isAllowed 2 (some .boolean) :: lw_all) ({ frames := 0, cells := 0, slots := 0, locals := 0 } : Room)).room s m ([.ref (ad k0), .ref (ad k1)] : List Value).toArray below meth c H locs 0 0 (MQ below (va_Qi Q (pt_B D cA ad) (pt_fr ad s.heap.size)) ([.ref (ad k0), .ref (ad k1)] : List Value).toArray s 0 0 (pt_fr ad s.heap.size)) (F0 m 88 ls [.int xs0]) := by
    intro xs0 M H locs ls hw hP hS hl
    unfold wjX6_isAllowed_88 at hw
    exact W.zret (v := xs0) (ty := .boolean) hx hb hr (pt_zb_n hw.1) (fun t ht hW => ⟨⟨xs0, M, rfl, hw.2, by unfold pt_B; rw [ht]; exact hP⟩, hS.F ht⟩) hS.2.2 dX6_isAllowed_88
  have J69 : ∀ (xs0 : Int32) (M : pt_M) (H : Heap) (locs : List Loc) (ls : Array Slot), wjX6_isAllowed_69 k0 k1 Q xs0 M → va_P D pt_cl (pt_W cA ad M) H → va_S (pt_fr ad s.heap.size) s.heap H locs → lv_has ls 2 [] → W p l e (headSpec (Cond.code yX6_isAllowed cX6_isAllowed 2 (some .boolean) :: lw_all) ({ frames := 0, cells := 0, slots := 0, locals := 0 } : Room)).room s m ([.ref (ad k0), .ref (ad k1)] : List Value).toArray below meth c H locs 0 0 (MQ below (va_Qi Q (pt_B D cA ad) (pt_fr ad s.heap.size)) ([.ref (ad k0), .ref (ad k1)] : List Value).toArray s 0 0 (pt_fr ad s.heap.size)) (F0 m 69 ls [.int xs0]) := by
    intro xs0 M H locs ls hw hP hS hl
    unfold wjX6_isAllowed_69 at hw
    exact W.zret (v := xs0) (ty := .boolean) hx hb hr (pt_zb_n hw.1) (fun t ht hW => ⟨⟨xs0, M, rfl, hw.2, by unfold pt_B; rw [ht]; exact hP⟩, hS.F ht⟩) hS.2.2 dX6_isAllowed_69
  have J50 : ∀ (xs0 : Int32) (M : pt_M) (H : Heap) (locs : List Loc) (ls : Array Slot), wjX6_isAllowed_50 k0 k1 Q xs0 M → va_P D pt_cl (pt_W cA ad M) H → va_S (pt_fr ad s.heap.size) s.heap H locs → lv_has ls 2 [] → W p l e (headSpec (Cond.code yX6_isAllowed cX6_isAllowed 2 (some .boolean) :: lw_all) ({ frames := 0, cells := 0, slots := 0, locals := 0 } : Room)).room s m ([.ref (ad k0), .ref (ad k1)] : List Value).toArray below meth c H locs 0 0 (MQ below (va_Qi Q (pt_B D cA ad) (pt_fr ad s.heap.size)) ([.ref (ad k0), .ref (ad k1)] : List Value).toArray s 0 0 (pt_fr ad s.heap.size)) (F0 m 50 ls [.int xs0]) := by
    intro xs0 M H locs ls hw hP hS hl
    unfold wjX6_isAllowed_50 at hw
    exact W.zret (v := xs0) (ty := .boolean) hx hb hr (pt_zb_n hw.1) (fun t ht hW => ⟨⟨xs0, M, rfl, hw.2, by unfold pt_B; rw [ht]; exact hP⟩, hS.F ht⟩) hS.2.2 dX6_isAllowed_50
  unfold wpX6_isAllowed at hw
  refine lv_aload_n hx hb dX6_isAllowed_0 rfl (lv_at hl 0 rfl) ?_
  refine pt_get F hP (pt_c6 _ hk0) (pt_l6 hk0) inX6 rfl 6 (by decide) kw_197 rfl rfl dX6_isAllowed_1 ?_
  by_cases hn4_0 : (M k0 6) = 1
  · replace hw := hw.1 hn4_0
    refine lv_tableIn (off := 28) (tgt := 32) hx hb dX6_isAllowed_4 (by rw [hn4_0]; decide) (by rw [hn4_0]; decide) (by rw [hn4_0]; rfl) (by decide) ?_
    refine lv_aload_n hx hb dX6_isAllowed_32 rfl (lv_at hl 1 rfl) ?_
    refine lv_aload_n hx hb dX6_isAllowed_33 rfl (lv_at hl 0 rfl) ?_
    refine pt_get F hP (pt_c6 _ hk0) (pt_l6 hk0) inX6 rfl 7 (by decide) kw_199 rfl rfl dX6_isAllowed_34 ?_
    have hv37 := hw.1
    replace hw := hw.2
    refine pt_iald F hP hk1 hv37 dX6_isAllowed_37 ?_
    refine lv_aload_n hx hb dX6_isAllowed_38 rfl (lv_at hl 0 rfl) ?_
    refine pt_get F hP (pt_c6 _ hk0) (pt_l6 hk0) inX6 rfl 8 (by decide) kw_201 rfl rfl dX6_isAllowed_39 ?_
    refine lv_icmp_ge (tgt := 49) hx hb dX6_isAllowed_42 (by decide) (fun hc42 => ?_) (fun hc42 => ?_)
    · replace hw := hw.1 hc42
      refine lv_iconst (v := 0) hx hb dX6_isAllowed_49 (by decide) ?_
      exact J50 0 M _ _ _ hw hP hS (lv_sub hl [] rfl)
    · replace hw := hw.2 hc42
      refine lv_iconst (v := 1) hx hb dX6_isAllowed_45 (by decide) ?_
      refine lv_goto (tgt := 50) hx hb dX6_isAllowed_46 (by decide) ?_
      exact J50 1 M _ _ _ hw hP hS (lv_sub hl [] rfl)
  · replace hw := hw.2 hn4_0
    by_cases hn4_1 : (M k0 6) = 2
    · replace hw := hw.1 hn4_1
      refine lv_tableIn (off := 47) (tgt := 51) hx hb dX6_isAllowed_4 (by rw [hn4_1]; decide) (by rw [hn4_1]; decide) (by rw [hn4_1]; rfl) (by decide) ?_
      refine lv_aload_n hx hb dX6_isAllowed_51 rfl (lv_at hl 1 rfl) ?_
      refine lv_aload_n hx hb dX6_isAllowed_52 rfl (lv_at hl 0 rfl) ?_
      refine pt_get F hP (pt_c6 _ hk0) (pt_l6 hk0) inX6 rfl 7 (by decide) kw_199 rfl rfl dX6_isAllowed_53 ?_
      have hv56 := hw.1
      replace hw := hw.2
      refine pt_iald F hP hk1 hv56 dX6_isAllowed_56 ?_
      refine lv_aload_n hx hb dX6_isAllowed_57 rfl (lv_at hl 0 rfl) ?_
      refine pt_get F hP (pt_c6 _ hk0) (pt_l6 hk0) inX6 rfl 8 (by decide) kw_201 rfl rfl dX6_isAllowed_58 ?_
      refine lv_icmp_ne (tgt := 68) hx hb dX6_isAllowed_61 (by decide) (fun hc61 => ?_) (fun hc61 => ?_)
      · replace hw := hw.1 hc61
        refine lv_iconst (v := 0) hx hb dX6_isAllowed_68 (by decide) ?_
        exact J69 0 M _ _ _ hw hP hS (lv_sub hl [] rfl)
      · replace hw := hw.2 hc61
        refine lv_iconst (v := 1) hx hb dX6_isAllowed_64 (by decide) ?_
        refine lv_goto (tgt := 69) hx hb dX6_isAllowed_65 (by decide) ?_
        exact J69 1 M _ _ _ hw hP hS (lv_sub hl [] rfl)
    · replace hw := hw.2 hn4_1
      by_cases hn4_2 : (M k0 6) = 3
      · replace hw := hw.1 hn4_2
        refine lv_tableIn (off := 66) (tgt := 70) hx hb dX6_isAllowed_4 (by rw [hn4_2]; decide) (by rw [hn4_2]; decide) (by rw [hn4_2]; rfl) (by decide) ?_
        refine lv_aload_n hx hb dX6_isAllowed_70 rfl (lv_at hl 1 rfl) ?_
        refine lv_aload_n hx hb dX6_isAllowed_71 rfl (lv_at hl 0 rfl) ?_
        refine pt_get F hP (pt_c6 _ hk0) (pt_l6 hk0) inX6 rfl 7 (by decide) kw_199 rfl rfl dX6_isAllowed_72 ?_
        have hv75 := hw.1
        replace hw := hw.2
        refine pt_iald F hP hk1 hv75 dX6_isAllowed_75 ?_
        refine lv_aload_n hx hb dX6_isAllowed_76 rfl (lv_at hl 0 rfl) ?_
        refine pt_get F hP (pt_c6 _ hk0) (pt_l6 hk0) inX6 rfl 8 (by decide) kw_201 rfl rfl dX6_isAllowed_77 ?_
        refine lv_icmp_le (tgt := 87) hx hb dX6_isAllowed_80 (by decide) (fun hc80 => ?_) (fun hc80 => ?_)
        · replace hw := hw.1 hc80
          refine lv_iconst (v := 0) hx hb dX6_isAllowed_87 (by decide) ?_
          exact J88 0 M _ _ _ hw hP hS (lv_sub hl [] rfl)
        · replace hw := hw.2 hc80
          refine lv_iconst (v := 1) hx hb dX6_isAllowed_83 (by decide) ?_
          refine lv_goto (tgt := 88) hx hb dX6_isAllowed_84 (by decide) ?_
          exact J88 1 M _ _ _ hw hP hS (lv_sub hl [] rfl)
      · replace hw := hw.2 hn4_2
        refine lv_tableOut (tgt := 89) hx hb dX6_isAllowed_4 (pt_out13 hn4_0 hn4_1 hn4_2) (by decide) ?_
        refine lv_iconst (v := 1) hx hb dX6_isAllowed_89 (by decide) ?_
        exact W.zret (v := 1) (ty := .boolean) hx hb hr rfl (fun t ht hW => ⟨⟨1, M, rfl, hw, by unfold pt_B; rw [ht]; exact hP⟩, hS.F ht⟩) hS.2.2 dX6_isAllowed_90
-- ===== X4_deactivate
def lbX4_deactivate_7 (k0 : Nat) (Q : pt_M → Prop)  (R7 : Int32 → pt_M → Prop) (x1 : Int32) (M : pt_M) : Prop :=
  (20 ≤ x1 → Q M) ∧ (¬ 20 ≤ x1 → vp_in x1 20 ∧ ∀ M_22 : pt_M, M_22 = pt_st M (k0 + 1) (Int32.toNatClampNeg x1) (-1) → ∀ x1_23 : Int32, x1_23 = x1 + 1 → R7 x1_23 M_22)
def lpX4_deactivate_7 (k0 : Nat) (Q : pt_M → Prop)  : Nat → Int32 → pt_M → Prop
  | 0 => fun _ _ => False
  | n + 1 => fun x1 M => lbX4_deactivate_7 k0 Q (lpX4_deactivate_7 k0 Q n) x1 M
def wpX4_deactivate (k0 : Nat) (M : pt_M) (Q : pt_M → Prop) : Prop :=
  ∀ M_2 : pt_M, M_2 = pt_st M k0 3 0 → ∃ n : Nat, lpX4_deactivate_7 k0 Q n 0 M_2
set_option maxHeartbeats 4000000 in
set_option maxRecDepth 100000 in
theorem mtX4_deactivate (l : Launch) (D : va_G) (cA : Nat → ClassId) (ad : Nat → Nat) (hI : pt_I ad) (sz : Nat) (k0 : Nat) (hk0 : pt_kd k0 = 4) (M : pt_M) (Q : pt_M → Prop) (hw : wpX4_deactivate k0 M Q) : Met l yX4_deactivate (Cond.code yX4_deactivate cX4_deactivate 2 none :: lw_all) ({ frames := 0, cells := 0, slots := 0, locals := 0 } : Room) (va_Pc [.ref (ad k0)] (pt_P D cA ad sz M)) (va_Qv Q (pt_B D cA ad) (pt_fr ad sz)) 0 0 (pt_fr ad sz) := by
  refine Met.ofW (cc := cX4_deactivate) (maxL := 2) (ret := none) (by decide) rfl ?_
  intro p e s m args below meth c s₁ B hml hv
  obtain ⟨rfl, hsz, hP, hK⟩ := hv
  have hx := B.exec
  have hb := B.bytes
  have hr := B.returns
  have hts0 := atoms_spec (ws := (Cond.code yX4_deactivate cX4_deactivate 2 none :: lw_all)) B.pre
  have hown : s.vm.findClass RX4 = some m.cls := findClass_of_methodNamed B.named
  have hlocks := B.notSynchronized
  subst hsz
  have F : pt_F p m c cX4_deactivate 2 s _ RX4 D cA := ⟨⟨hx, hb, hml, hown, fun w h => hts0 w (List.mem_cons_of_mem _ h)⟩, hK⟩
  have hD : ∀ M, va_D (pt_fr ad s.heap.size) (pt_W cA ad M) := pt_D hI (fun k h => Or.inl ⟨k, h, rfl⟩)
  have hS : va_S (pt_fr ad s.heap.size) s.heap s.heap [] := va_S.rf
  have hl := lv_entry ([.ref (ad k0)]) (n := 2) (Nat.le_of_ble_eq_true rfl)
  rw [lg_entry_eq]
  generalize (lg_sl ([.ref (ad k0)]) ++ List.replicate (2 - (lg_sl ([.ref (ad k0)])).length) Slot.unset).toArray = ls at hl ⊢
  have hl : lv_has ls 2 [(0, .ref (ad k0))] := hl
  have L7 : ∀ (n7 : Nat) (x1 : Int32) (M : pt_M) (H : Heap) (locs : List Loc) (ls : Array Slot), lpX4_deactivate_7 k0 Q n7 x1 M → va_P D pt_cl (pt_W cA ad M) H → va_S (pt_fr ad s.heap.size) s.heap H locs → lv_has ls 2 [(0, .ref (ad k0)), (1, .int x1)] → W p l e (headSpec (Cond.code yX4_deactivate cX4_deactivate 2 none :: lw_all) ({ frames := 0, cells := 0, slots := 0, locals := 0 } : Room)).room s m ([.ref (ad k0)] : List Value).toArray below meth c H locs 0 0 (MQ below (va_Qv Q (pt_B D cA ad) (pt_fr ad s.heap.size)) ([.ref (ad k0)] : List Value).toArray s 0 0 (pt_fr ad s.heap.size)) (F0 m 7 ls []) := by
    intro n7
    induction n7 with
    | zero => intro x1 M H locs ls hw; exact hw.elim
    | succ n7 ih7 =>
      intro x1 M H locs ls hw hP hS hl
      replace hw : lbX4_deactivate_7 k0 Q (lpX4_deactivate_7 k0 Q n7) x1 M := hw
      unfold lbX4_deactivate_7 at hw
      refine lv_iload_n hx hb dX4_deactivate_7 rfl (lv_at hl 1 rfl) ?_
      refine lv_aload_n hx hb dX4_deactivate_8 rfl (lv_at hl 0 rfl) ?_
      refine pt_get F hP (pt_c4 _ hk0) (pt_l4 hk0) inX4 rfl 0 (by decide) kw_267 rfl rfl dX4_deactivate_9 ?_
      refine pt_alen (v := 20) F hP (pt_4a hk0) rfl dX4_deactivate_12 ?_
      refine lv_icmp_ge (tgt := 29) hx hb dX4_deactivate_13 (by decide) (fun hc13 => ?_) (fun hc13 => ?_)
      · replace hw := hw.1 hc13
        exact W.vret hx hb hr (fun t ht hW => ⟨⟨M, rfl, hw, by unfold pt_B; rw [ht]; exact hP⟩, hS.F ht⟩) hS.2.2 dX4_deactivate_29
      · replace hw := hw.2 hc13
        refine lv_aload_n hx hb dX4_deactivate_16 rfl (lv_at hl 0 rfl) ?_
        refine pt_get F hP (pt_c4 _ hk0) (pt_l4 hk0) inX4 rfl 0 (by decide) kw_267 rfl rfl dX4_deactivate_17 ?_
        refine lv_iload_n hx hb dX4_deactivate_20 rfl (lv_at hl 1 rfl) ?_
        refine lv_iconst (v := (-1)) hx hb dX4_deactivate_21 (by decide) ?_
        have hv22 := hw.1
        replace hw := hw.2
        refine pt_iast F hP hD hS (pt_4a hk0) hv22 dX4_deactivate_22 (fun M_22 H locs eM_22 hP hS => ?_)
        replace hw := hw M_22 eM_22
        obtain ⟨x1_23, ex1_23⟩ : ∃ y : Int32, y = x1 + 1 := ⟨_, rfl⟩
        replace hw := hw x1_23 ex1_23
        refine lv_iinc (v := x1_23) (lv' := [(1, .int x1_23), (0, .ref (ad k0))]) hx hb dX4_deactivate_23 hl (k := 1) rfl (by rw [ex1_23]; rfl) (by decide) rfl (fun ls hl => ?_)
        refine lv_goto (tgt := 7) hx hb dX4_deactivate_26 (by decide) ?_
        exact ih7 x1_23 M_22 _ _ _ hw hP hS (lv_sub hl [1, 0] rfl)
  unfold wpX4_deactivate at hw
  refine lv_aload_n hx hb dX4_deactivate_0 rfl (lv_at hl 0 rfl) ?_
  refine lv_iconst (v := 0) hx hb dX4_deactivate_1 (by decide) ?_
  refine pt_put F hP hD hS (pt_c4 _ hk0) (pt_l4 hk0) inX4 tyX4 tyX4_ok nmX4 rfl 3 (by decide) kw_276 rfl rfl rfl rfl (Nat.le_of_ble_eq_true rfl) (pt_c4 _ hk0) dX4_deactivate_2 (fun M_2 H locs eM_2 hP hS => ?_)
  replace hw := hw M_2 eM_2
  refine lv_iconst (v := 0) hx hb dX4_deactivate_5 (by decide) ?_
  refine lv_istore_n (lv' := [(1, .int 0), (0, .ref (ad k0))]) hx hb dX4_deactivate_6 rfl hl (by decide) rfl (fun ls hl => ?_)
  obtain ⟨n_, hw⟩ := hw
  exact L7 n_ 0 M_2 _ _ _ hw hP hS (lv_sub hl [1, 0] rfl)
end
section
-- ===== X4_clear
def lbX4_clear_30 (k0 : Nat) (Q : pt_M → Prop)  (R30 : Int32 → pt_M → Prop) (x1 : Int32) (M : pt_M) : Prop :=
  (4 ≤ x1 → Q M) ∧ (¬ 4 ≤ x1 → vp_in x1 4 ∧ ∀ M_45 : pt_M, M_45 = pt_st M (k0 + 3) (Int32.toNatClampNeg x1) 0 → ∀ x1_46 : Int32, x1_46 = x1 + 1 → R30 x1_46 M_45)
def lpX4_clear_30 (k0 : Nat) (Q : pt_M → Prop)  : Nat → Int32 → pt_M → Prop
  | 0 => fun _ _ => False
  | n + 1 => fun x1 M => lbX4_clear_30 k0 Q (lpX4_clear_30 k0 Q n) x1 M
def lbX4_clear_6 (k0 : Nat) (Q : pt_M → Prop)  (R6 : Int32 → pt_M → Prop) (x1 : Int32) (M : pt_M) : Prop :=
  (20 ≤ x1 → ∃ n : Nat, lpX4_clear_30 k0 Q n 0 M) ∧ (¬ 20 ≤ x1 → vp_in x1 20 ∧ ∀ M_21 : pt_M, M_21 = pt_st M (k0 + 2) (Int32.toNatClampNeg x1) 0 → ∀ x1_22 : Int32, x1_22 = x1 + 1 → R6 x1_22 M_21)
def lpX4_clear_6 (k0 : Nat) (Q : pt_M → Prop)  : Nat → Int32 → pt_M → Prop
  | 0 => fun _ _ => False
  | n + 1 => fun x1 M => lbX4_clear_6 k0 Q (lpX4_clear_6 k0 Q n) x1 M
def wpX4_clear (k0 : Nat) (M : pt_M) (Q : pt_M → Prop) : Prop :=
  wpX4_deactivate k0 M (fun (M_1 : pt_M) => ∃ n : Nat, lpX4_clear_6 k0 Q n 0 M_1)
set_option maxHeartbeats 4000000 in
set_option maxRecDepth 100000 in
theorem mtX4_clear (l : Launch) (D : va_G) (cA : Nat → ClassId) (ad : Nat → Nat) (hI : pt_I ad) (sz : Nat) (k0 : Nat) (hk0 : pt_kd k0 = 4) (M : pt_M) (Q : pt_M → Prop) (hw : wpX4_clear k0 M Q) : Met l yX4_clear (Cond.code yX4_clear cX4_clear 2 none :: lw_all) ({ frames := 1, cells := 0, slots := 0, locals := 21 } : Room) (va_Pc [.ref (ad k0)] (pt_P D cA ad sz M)) (va_Qv Q (pt_B D cA ad) (pt_fr ad sz)) 0 0 (pt_fr ad sz) := by
  refine Met.ofW (cc := cX4_clear) (maxL := 2) (ret := none) (by decide) rfl ?_
  intro p e s m args below meth c s₁ B hml hv
  obtain ⟨rfl, hsz, hP, hK⟩ := hv
  have hx := B.exec
  have hb := B.bytes
  have hr := B.returns
  have hts0 := atoms_spec (ws := (Cond.code yX4_clear cX4_clear 2 none :: lw_all)) B.pre
  have hown : s.vm.findClass RX4 = some m.cls := findClass_of_methodNamed B.named
  have hlocks := B.notSynchronized
  subst hsz
  have F : pt_F p m c cX4_clear 2 s _ RX4 D cA := ⟨⟨hx, hb, hml, hown, fun w h => hts0 w (List.mem_cons_of_mem _ h)⟩, hK⟩
  have hD : ∀ M, va_D (pt_fr ad s.heap.size) (pt_W cA ad M) := pt_D hI (fun k h => Or.inl ⟨k, h, rfl⟩)
  have hS : va_S (pt_fr ad s.heap.size) s.heap s.heap [] := va_S.rf
  have hl := lv_entry ([.ref (ad k0)]) (n := 2) (Nat.le_of_ble_eq_true rfl)
  rw [lg_entry_eq]
  generalize (lg_sl ([.ref (ad k0)]) ++ List.replicate (2 - (lg_sl ([.ref (ad k0)])).length) Slot.unset).toArray = ls at hl ⊢
  have hl : lv_has ls 2 [(0, .ref (ad k0))] := hl
  have L30 : ∀ (n30 : Nat) (x1 : Int32) (M : pt_M) (H : Heap) (locs : List Loc) (ls : Array Slot), lpX4_clear_30 k0 Q n30 x1 M → va_P D pt_cl (pt_W cA ad M) H → va_S (pt_fr ad s.heap.size) s.heap H locs → lv_has ls 2 [(0, .ref (ad k0)), (1, .int x1)] → W p l e (headSpec (Cond.code yX4_clear cX4_clear 2 none :: lw_all) ({ frames := 1, cells := 0, slots := 0, locals := 21 } : Room)).room s m ([.ref (ad k0)] : List Value).toArray below meth c H locs 0 0 (MQ below (va_Qv Q (pt_B D cA ad) (pt_fr ad s.heap.size)) ([.ref (ad k0)] : List Value).toArray s 0 0 (pt_fr ad s.heap.size)) (F0 m 30 ls []) := by
    intro n30
    induction n30 with
    | zero => intro x1 M H locs ls hw; exact hw.elim
    | succ n30 ih30 =>
      intro x1 M H locs ls hw hP hS hl
      replace hw : lbX4_clear_30 k0 Q (lpX4_clear_30 k0 Q n30) x1 M := hw
      unfold lbX4_clear_30 at hw
      refine lv_iload_n hx hb dX4_clear_30 rfl (lv_at hl 1 rfl) ?_
      refine lv_aload_n hx hb dX4_clear_31 rfl (lv_at hl 0 rfl) ?_
      refine pt_get F hP (pt_c4 _ hk0) (pt_l4 hk0) inX4 rfl 2 (by decide) kw_273 rfl rfl dX4_clear_32 ?_
      refine pt_alen (v := 4) F hP (pt_4v hk0) rfl dX4_clear_35 ?_
      refine lv_icmp_ge (tgt := 52) hx hb dX4_clear_36 (by decide) (fun hc36 => ?_) (fun hc36 => ?_)
      · replace hw := hw.1 hc36
        exact W.vret hx hb hr (fun t ht hW => ⟨⟨M, rfl, hw, by unfold pt_B; rw [ht]; exact hP⟩, hS.F ht⟩) hS.2.2 dX4_clear_52
      · replace hw := hw.2 hc36
        refine lv_aload_n hx hb dX4_clear_39 rfl (lv_at hl 0 rfl) ?_
        refine pt_get F hP (pt_c4 _ hk0) (pt_l4 hk0) inX4 rfl 2 (by decide) kw_273 rfl rfl dX4_clear_40 ?_
        refine lv_iload_n hx hb dX4_clear_43 rfl (lv_at hl 1 rfl) ?_
        refine lv_iconst (v := 0) hx hb dX4_clear_44 (by decide) ?_
        have hv45 := hw.1
        replace hw := hw.2
        refine pt_iast F hP hD hS (pt_4v hk0) hv45 dX4_clear_45 (fun M_45 H locs eM_45 hP hS => ?_)
        replace hw := hw M_45 eM_45
        obtain ⟨x1_46, ex1_46⟩ : ∃ y : Int32, y = x1 + 1 := ⟨_, rfl⟩
        replace hw := hw x1_46 ex1_46
        refine lv_iinc (v := x1_46) (lv' := [(1, .int x1_46), (0, .ref (ad k0))]) hx hb dX4_clear_46 hl (k := 1) rfl (by rw [ex1_46]; rfl) (by decide) rfl (fun ls hl => ?_)
        refine lv_goto (tgt := 30) hx hb dX4_clear_49 (by decide) ?_
        exact ih30 x1_46 M_45 _ _ _ hw hP hS (lv_sub hl [1, 0] rfl)
  have L6 : ∀ (n6 : Nat) (x1 : Int32) (M : pt_M) (H : Heap) (locs : List Loc) (ls : Array Slot), lpX4_clear_6 k0 Q n6 x1 M → va_P D pt_cl (pt_W cA ad M) H → va_S (pt_fr ad s.heap.size) s.heap H locs → lv_has ls 2 [(0, .ref (ad k0)), (1, .int x1)] → W p l e (headSpec (Cond.code yX4_clear cX4_clear 2 none :: lw_all) ({ frames := 1, cells := 0, slots := 0, locals := 21 } : Room)).room s m ([.ref (ad k0)] : List Value).toArray below meth c H locs 0 0 (MQ below (va_Qv Q (pt_B D cA ad) (pt_fr ad s.heap.size)) ([.ref (ad k0)] : List Value).toArray s 0 0 (pt_fr ad s.heap.size)) (F0 m 6 ls []) := by
    intro n6
    induction n6 with
    | zero => intro x1 M H locs ls hw; exact hw.elim
    | succ n6 ih6 =>
      intro x1 M H locs ls hw hP hS hl
      replace hw : lbX4_clear_6 k0 Q (lpX4_clear_6 k0 Q n6) x1 M := hw
      unfold lbX4_clear_6 at hw
      refine lv_iload_n hx hb dX4_clear_6 rfl (lv_at hl 1 rfl) ?_
      refine lv_aload_n hx hb dX4_clear_7 rfl (lv_at hl 0 rfl) ?_
      refine pt_get F hP (pt_c4 _ hk0) (pt_l4 hk0) inX4 rfl 1 (by decide) kw_270 rfl rfl dX4_clear_8 ?_
      refine pt_alen (v := 20) F hP (pt_4r hk0) rfl dX4_clear_11 ?_
      refine lv_icmp_ge (tgt := 28) hx hb dX4_clear_12 (by decide) (fun hc12 => ?_) (fun hc12 => ?_)
      · replace hw := hw.1 hc12
        refine lv_iconst (v := 0) hx hb dX4_clear_28 (by decide) ?_
        refine lv_istore_n (lv' := [(1, .int 0), (0, .ref (ad k0))]) hx hb dX4_clear_29 rfl hl (by decide) rfl (fun ls hl => ?_)
        obtain ⟨n_, hw⟩ := hw
        exact L30 n_ 0 M _ _ _ hw hP hS (lv_sub hl [1, 0] rfl)
      · replace hw := hw.2 hc12
        refine lv_aload_n hx hb dX4_clear_15 rfl (lv_at hl 0 rfl) ?_
        refine pt_get F hP (pt_c4 _ hk0) (pt_l4 hk0) inX4 rfl 1 (by decide) kw_270 rfl rfl dX4_clear_16 ?_
        refine lv_iload_n hx hb dX4_clear_19 rfl (lv_at hl 1 rfl) ?_
        refine lv_iconst (v := 0) hx hb dX4_clear_20 (by decide) ?_
        have hv21 := hw.1
        replace hw := hw.2
        refine pt_iast F hP hD hS (pt_4r hk0) hv21 dX4_clear_21 (fun M_21 H locs eM_21 hP hS => ?_)
        replace hw := hw M_21 eM_21
        obtain ⟨x1_22, ex1_22⟩ : ∃ y : Int32, y = x1 + 1 := ⟨_, rfl⟩
        replace hw := hw x1_22 ex1_22
        refine lv_iinc (v := x1_22) (lv' := [(1, .int x1_22), (0, .ref (ad k0))]) hx hb dX4_clear_22 hl (k := 1) rfl (by rw [ex1_22]; rfl) (by decide) rfl (fun ls hl => ?_)
        refine lv_goto (tgt := 6) hx hb dX4_clear_25 (by decide) ?_
        exact ih6 x1_22 M_21 _ _ _ hw hP hS (lv_sub hl [1, 0] rfl)
  unfold wpX4_clear at hw
  refine lv_aload_n hx hb dX4_clear_0 rfl (lv_at hl 0 rfl) ?_
  refine pt_callv (pt_runV (n := 0) (As := []) (rest := []) F hP (pt_c4 _ hk0) (pt_l4 hk0) rfl (mtX4_deactivate l D cA ad hI _ k0 hk0 M _ hw) kw_714 kw_711 kw_58 kw_712 kw_713 ⟨by decide, by decide, by decide +kernel⟩ ⟨rfl, rfl, Nat.le_of_ble_eq_true rfl, Nat.le_of_ble_eq_true rfl⟩ rfl hl.1 rfl (Nat.le_of_ble_eq_true rfl) dX4_clear_1 ⟨Nat.zero_le _, Nat.zero_le _⟩) hS (fun _ h => h) (fun M_1 H locs hw hP hS _ _ => ?_)
  refine lv_iconst (v := 0) hx hb dX4_clear_4 (by decide) ?_
  refine lv_istore_n (lv' := [(1, .int 0), (0, .ref (ad k0))]) hx hb dX4_clear_5 rfl hl (by decide) rfl (fun ls hl => ?_)
  obtain ⟨n_, hw⟩ := hw
  exact L6 n_ 0 M_1 _ _ _ hw hP hS (lv_sub hl [1, 0] rfl)
-- ===== X4_add
def wpX4_add (k0 : Nat) (p1 : Int32) (p2 : Int32) (M : pt_M) (Q : pt_M → Prop) : Prop :=
  vp_in p1 4 ∧ (∀ x3_8 : Int32, x3_8 = ((M (k0 + 3) (Int32.toNatClampNeg p1)) + p2) → ∀ r_19 : Int32, r_19 = (if x3_8 < 99 then x3_8 else 99) → ∀ r_22 : Int32, r_22 = (if (-99) < r_19 then r_19 else (-99)) → vp_in p1 4 ∧ ∀ M_25 : pt_M, M_25 = pt_st M (k0 + 3) (Int32.toNatClampNeg p1) r_22 → Q M_25)
set_option maxHeartbeats 4000000 in
set_option maxRecDepth 100000 in
theorem mtX4_add (l : Launch) (D : va_G) (cA : Nat → ClassId) (ad : Nat → Nat) (hI : pt_I ad) (sz : Nat) (k0 : Nat) (hk0 : pt_kd k0 = 4) (p1 : Int32) (p2 : Int32) (M : pt_M) (Q : pt_M → Prop) (hw : wpX4_add k0 p1 p2 M Q) : Met l yX4_add (Cond.code yX4_add cX4_add 4 none :: lw_all) ({ frames := 1, cells := 0, slots := 0, locals := 21 } : Room) (va_Pc [.ref (ad k0), .int p1, .int p2] (pt_P D cA ad sz M)) (va_Qv Q (pt_B D cA ad) (pt_fr ad sz)) 0 0 (pt_fr ad sz) := by
  refine Met.ofW (cc := cX4_add) (maxL := 4) (ret := none) (by decide) rfl ?_
  intro p e s m args below meth c s₁ B hml hv
  obtain ⟨rfl, hsz, hP, hK⟩ := hv
  have hx := B.exec
  have hb := B.bytes
  have hr := B.returns
  have hts0 := atoms_spec (ws := (Cond.code yX4_add cX4_add 4 none :: lw_all)) B.pre
  have hown : s.vm.findClass RX4 = some m.cls := findClass_of_methodNamed B.named
  have hlocks := B.notSynchronized
  subst hsz
  have F : pt_F p m c cX4_add 4 s _ RX4 D cA := ⟨⟨hx, hb, hml, hown, fun w h => hts0 w (List.mem_cons_of_mem _ h)⟩, hK⟩
  have hD : ∀ M, va_D (pt_fr ad s.heap.size) (pt_W cA ad M) := pt_D hI (fun k h => Or.inl ⟨k, h, rfl⟩)
  have hS : va_S (pt_fr ad s.heap.size) s.heap s.heap [] := va_S.rf
  have hl := lv_entry ([.ref (ad k0), .int p1, .int p2]) (n := 4) (Nat.le_of_ble_eq_true rfl)
  rw [lg_entry_eq]
  generalize (lg_sl ([.ref (ad k0), .int p1, .int p2]) ++ List.replicate (4 - (lg_sl ([.ref (ad k0), .int p1, .int p2])).length) Slot.unset).toArray = ls at hl ⊢
  have hl : lv_has ls 4 [(0, .ref (ad k0)), (1, .int p1), (2, .int p2)] := hl
  unfold wpX4_add at hw
  refine lv_aload_n hx hb dX4_add_0 rfl (lv_at hl 0 rfl) ?_
  refine pt_get F hP (pt_c4 _ hk0) (pt_l4 hk0) inX4 rfl 2 (by decide) kw_273 rfl rfl dX4_add_1 ?_
  refine lv_iload_n hx hb dX4_add_4 rfl (lv_at hl 1 rfl) ?_
  have hv5 := hw.1
  replace hw := hw.2
  refine pt_iald F hP (pt_4v hk0) hv5 dX4_add_5 ?_
  refine lv_iload_n hx hb dX4_add_6 rfl (lv_at hl 2 rfl) ?_
  refine lv_iadd hx hb dX4_add_7 ?_
  refine lv_topi (fun x3_8 ex3_8 => ?_)
  replace hw := hw x3_8 ex3_8
  refine lv_istore_n (lv' := [(3, .int x3_8), (0, .ref (ad k0)), (1, .int p1), (2, .int p2)]) hx hb dX4_add_8 rfl hl (by decide) rfl (fun ls hl => ?_)
  refine lv_aload_n hx hb dX4_add_9 rfl (lv_at hl 1 rfl) ?_
  refine pt_get F hP (pt_c4 _ hk0) (pt_l4 hk0) inX4 rfl 2 (by decide) kw_273 rfl rfl dX4_add_10 ?_
  refine lv_iload_n hx hb dX4_add_13 rfl (lv_at hl 2 rfl) ?_
  refine lv_bipush (v := (-99)) hx hb dX4_add_14 (by decide) ?_
  refine lv_bipush (v := 99) hx hb dX4_add_16 (by decide) ?_
  refine lv_iload_n hx hb dX4_add_18 rfl (lv_at hl 0 rfl) ?_
  refine va_mmin hx hb (hml.trans hl.1.symm) hown (F.1.2.2.2.2 _ kw_734) (F.1.2.2.2.2 _ kw_735) (F.1.2.2.2.2 _ kw_68) (F.1.2.2.2.2 _ kw_736) (Nat.le_of_ble_eq_true rfl) (Nat.le_of_ble_eq_true rfl) (Nat.zero_le _) (Nat.zero_le _) dX4_add_19 ?_
  refine lv_topi (fun r_19 er_19 => ?_)
  replace hw := hw r_19 er_19
  refine va_mmax hx hb (hml.trans hl.1.symm) hown (F.1.2.2.2.2 _ kw_737) (F.1.2.2.2.2 _ kw_738) (F.1.2.2.2.2 _ kw_68) (F.1.2.2.2.2 _ kw_739) (Nat.le_of_ble_eq_true rfl) (Nat.le_of_ble_eq_true rfl) (Nat.zero_le _) (Nat.zero_le _) dX4_add_22 ?_
  refine lv_topi (fun r_22 er_22 => ?_)
  replace hw := hw r_22 er_22
  have hv25 := hw.1
  replace hw := hw.2
  refine pt_iast F hP hD hS (pt_4v hk0) hv25 dX4_add_25 (fun M_25 H locs eM_25 hP hS => ?_)
  replace hw := hw M_25 eM_25
  exact W.vret hx hb hr (fun t ht hW => ⟨⟨M_25, rfl, hw, by unfold pt_B; rw [ht]; exact hP⟩, hS.F ht⟩) hS.2.2 dX4_add_26
-- ===== X4_copyFrom
def wpX4_copyFrom (k0 : Nat) (k1 : Nat) (M : pt_M) (Q : pt_M → Prop) : Prop :=
  ∀ M_5 : pt_M, M_5 = pt_st M k0 3 (M k1 3) → ∀ M_23 : pt_M, M_23 = pt_cp M_5 (k0 + 1) (k1 + 1) 20 → ∀ M_41 : pt_M, M_41 = pt_cp M_23 (k0 + 2) (k1 + 2) 20 → ∀ M_59 : pt_M, M_59 = pt_cp M_41 (k0 + 3) (k1 + 3) 4 → Q M_59
set_option maxHeartbeats 4000000 in
set_option maxRecDepth 100000 in
theorem mtX4_copyFrom (l : Launch) (D : va_G) (cA : Nat → ClassId) (ad : Nat → Nat) (hI : pt_I ad) (sz : Nat) (k0 : Nat) (hk0 : pt_kd k0 = 4) (k1 : Nat) (hk1 : pt_kd k1 = 4) (M : pt_M) (Q : pt_M → Prop) (hw : wpX4_copyFrom k0 k1 M Q) : Met l yX4_copyFrom (Cond.code yX4_copyFrom cX4_copyFrom 2 none :: lw_all) ({ frames := 1, cells := 0, slots := 0, locals := 40 } : Room) (va_Pc [.ref (ad k0), .ref (ad k1)] (pt_P D cA ad sz M)) (va_Qv Q (pt_B D cA ad) (pt_fr ad sz)) 0 0 (pt_fr ad sz) := by
  refine Met.ofW (cc := cX4_copyFrom) (maxL := 2) (ret := none) (by decide) rfl ?_
  intro p e s m args below meth c s₁ B hml hv
  obtain ⟨rfl, hsz, hP, hK⟩ := hv
  have hx := B.exec
  have hb := B.bytes
  have hr := B.returns
  have hts0 := atoms_spec (ws := (Cond.code yX4_copyFrom cX4_copyFrom 2 none :: lw_all)) B.pre
  have hown : s.vm.findClass RX4 = some m.cls := findClass_of_methodNamed B.named
  have hlocks := B.notSynchronized
  subst hsz
  have F : pt_F p m c cX4_copyFrom 2 s _ RX4 D cA := ⟨⟨hx, hb, hml, hown, fun w h => hts0 w (List.mem_cons_of_mem _ h)⟩, hK⟩
  have hD : ∀ M, va_D (pt_fr ad s.heap.size) (pt_W cA ad M) := pt_D hI (fun k h => Or.inl ⟨k, h, rfl⟩)
  have hS : va_S (pt_fr ad s.heap.size) s.heap s.heap [] := va_S.rf
  have hl := lv_entry ([.ref (ad k0), .ref (ad k1)]) (n := 2) (Nat.le_of_ble_eq_true rfl)
  rw [lg_entry_eq]
  generalize (lg_sl ([.ref (ad k0), .ref (ad k1)]) ++ List.replicate (2 - (lg_sl ([.ref (ad k0), .ref (ad k1)])).length) Slot.unset).toArray = ls at hl ⊢
  have hl : lv_has ls 2 [(0, .ref (ad k0)), (1, .ref (ad k1))] := hl
  unfold wpX4_copyFrom at hw
  refine lv_aload_n hx hb dX4_copyFrom_0 rfl (lv_at hl 0 rfl) ?_
  refine lv_aload_n hx hb dX4_copyFrom_1 rfl (lv_at hl 1 rfl) ?_
  refine pt_get F hP (pt_c4 _ hk1) (pt_l4 hk1) inX4 rfl 3 (by decide) kw_276 rfl rfl dX4_copyFrom_2 ?_
  refine pt_put F hP hD hS (pt_c4 _ hk0) (pt_l4 hk0) inX4 tyX4 tyX4_ok nmX4 rfl 3 (by decide) kw_276 rfl rfl rfl rfl (Nat.le_of_ble_eq_true rfl) (pt_c4 _ hk0) dX4_copyFrom_5 (fun M_5 H locs eM_5 hP hS => ?_)
  replace hw := hw M_5 eM_5
  refine lv_aload_n hx hb dX4_copyFrom_8 rfl (lv_at hl 1 rfl) ?_
  refine pt_get F hP (pt_c4 _ hk1) (pt_l4 hk1) inX4 rfl 0 (by decide) kw_267 rfl rfl dX4_copyFrom_9 ?_
  refine lv_iconst (v := 0) hx hb dX4_copyFrom_12 (by decide) ?_
  refine lv_aload_n hx hb dX4_copyFrom_13 rfl (lv_at hl 0 rfl) ?_
  refine pt_get F hP (pt_c4 _ hk0) (pt_l4 hk0) inX4 rfl 0 (by decide) kw_267 rfl rfl dX4_copyFrom_14 ?_
  refine lv_iconst (v := 0) hx hb dX4_copyFrom_17 (by decide) ?_
  refine lv_aload_n hx hb dX4_copyFrom_18 rfl (lv_at hl 0 rfl) ?_
  refine pt_get F hP (pt_c4 _ hk0) (pt_l4 hk0) inX4 rfl 0 (by decide) kw_267 rfl rfl dX4_copyFrom_19 ?_
  refine pt_alen (v := 20) F hP (pt_4a hk0) rfl dX4_copyFrom_22 ?_
  refine pt_cpy F hP hD hS hl.1 kw_888 kw_890 kw_889 kw_70 (pt_4a hk1) (pt_4a hk0) (by decide) (by decide) (Nat.le_of_ble_eq_true rfl) (Nat.le_of_ble_eq_true rfl) dX4_copyFrom_23 (fun M_23 H locs eM_23 hP hS => ?_)
  replace hw := hw M_23 eM_23
  refine lv_aload_n hx hb dX4_copyFrom_26 rfl (lv_at hl 1 rfl) ?_
  refine pt_get F hP (pt_c4 _ hk1) (pt_l4 hk1) inX4 rfl 1 (by decide) kw_270 rfl rfl dX4_copyFrom_27 ?_
  refine lv_iconst (v := 0) hx hb dX4_copyFrom_30 (by decide) ?_
  refine lv_aload_n hx hb dX4_copyFrom_31 rfl (lv_at hl 0 rfl) ?_
  refine pt_get F hP (pt_c4 _ hk0) (pt_l4 hk0) inX4 rfl 1 (by decide) kw_270 rfl rfl dX4_copyFrom_32 ?_
  refine lv_iconst (v := 0) hx hb dX4_copyFrom_35 (by decide) ?_
  refine lv_aload_n hx hb dX4_copyFrom_36 rfl (lv_at hl 0 rfl) ?_
  refine pt_get F hP (pt_c4 _ hk0) (pt_l4 hk0) inX4 rfl 1 (by decide) kw_270 rfl rfl dX4_copyFrom_37 ?_
  refine pt_alen (v := 20) F hP (pt_4r hk0) rfl dX4_copyFrom_40 ?_
  refine pt_cpy F hP hD hS hl.1 kw_888 kw_890 kw_889 kw_70 (pt_4r hk1) (pt_4r hk0) (by decide) (by decide) (Nat.le_of_ble_eq_true rfl) (Nat.le_of_ble_eq_true rfl) dX4_copyFrom_41 (fun M_41 H locs eM_41 hP hS => ?_)
  replace hw := hw M_41 eM_41
  refine lv_aload_n hx hb dX4_copyFrom_44 rfl (lv_at hl 1 rfl) ?_
  refine pt_get F hP (pt_c4 _ hk1) (pt_l4 hk1) inX4 rfl 2 (by decide) kw_273 rfl rfl dX4_copyFrom_45 ?_
  refine lv_iconst (v := 0) hx hb dX4_copyFrom_48 (by decide) ?_
  refine lv_aload_n hx hb dX4_copyFrom_49 rfl (lv_at hl 0 rfl) ?_
  refine pt_get F hP (pt_c4 _ hk0) (pt_l4 hk0) inX4 rfl 2 (by decide) kw_273 rfl rfl dX4_copyFrom_50 ?_
  refine lv_iconst (v := 0) hx hb dX4_copyFrom_53 (by decide) ?_
  refine lv_aload_n hx hb dX4_copyFrom_54 rfl (lv_at hl 0 rfl) ?_
  refine pt_get F hP (pt_c4 _ hk0) (pt_l4 hk0) inX4 rfl 2 (by decide) kw_273 rfl rfl dX4_copyFrom_55 ?_
  refine pt_alen (v := 4) F hP (pt_4v hk0) rfl dX4_copyFrom_58 ?_
  refine pt_cpy F hP hD hS hl.1 kw_888 kw_890 kw_889 kw_70 (pt_4v hk1) (pt_4v hk0) (by decide) (by decide) (Nat.le_of_ble_eq_true rfl) (Nat.le_of_ble_eq_true rfl) dX4_copyFrom_59 (fun M_59 H locs eM_59 hP hS => ?_)
  replace hw := hw M_59 eM_59
  exact W.vret hx hb hr (fun t ht hW => ⟨⟨M_59, rfl, hw, by unfold pt_B; rw [ht]; exact hP⟩, hS.F ht⟩) hS.2.2 dX4_copyFrom_62
-- ===== X4_isSameAs
def wjX4_isSameAs_98 (k0 : Nat) (k1 : Nat) (Q : Int32 → pt_M → Prop)   (M : pt_M) : Prop :=
  Q 0 M
def lbX4_isSameAs_49 (k0 : Nat) (k1 : Nat) (Q : Int32 → pt_M → Prop)  (R49 : Int32 → pt_M → Prop) (x2 : Int32) (M : pt_M) : Prop :=
  (20 ≤ x2 → Q 1 M) ∧ (¬ 20 ≤ x2 → vp_in x2 20 ∧ (∀ r_66 : Int32, r_66 = (if 50 < (M (k0 + 1) (Int32.toNatClampNeg x2)) then 50 else (M (k0 + 1) (Int32.toNatClampNeg x2))) → vp_in x2 20 ∧ (∀ r_77 : Int32, r_77 = (if 50 < (M (k1 + 1) (Int32.toNatClampNeg x2)) then 50 else (M (k1 + 1) (Int32.toNatClampNeg x2))) → (¬ r_66 = r_77 → wjX4_isSameAs_98 k0 k1 Q M) ∧ (r_66 = r_77 → vp_in x2 20 ∧ (vp_in x2 20 ∧ (((M (k0 + 2) (Int32.toNatClampNeg x2)) = (M (k1 + 2) (Int32.toNatClampNeg x2)) → ∀ x2_100 : Int32, x2_100 = x2 + 1 → R49 x2_100 M) ∧ (¬ (M (k0 + 2) (Int32.toNatClampNeg x2)) = (M (k1 + 2) (Int32.toNatClampNeg x2)) → wjX4_isSameAs_98 k0 k1 Q M)))))))
def lpX4_isSameAs_49 (k0 : Nat) (k1 : Nat) (Q : Int32 → pt_M → Prop)  : Nat → Int32 → pt_M → Prop
  | 0 => fun _ _ => False
  | n + 1 => fun x2 M => lbX4_isSameAs_49 k0 k1 Q (lpX4_isSameAs_49 k0 k1 Q n) x2 M
def lbX4_isSameAs_15 (k0 : Nat) (k1 : Nat) (Q : Int32 → pt_M → Prop)  (R15 : Int32 → pt_M → Prop) (x2 : Int32) (M : pt_M) : Prop :=
  (4 ≤ x2 → ∃ n : Nat, lpX4_isSameAs_49 k0 k1 Q n 0 M) ∧ (¬ 4 ≤ x2 → vp_in x2 4 ∧ (vp_in x2 4 ∧ (((M (k0 + 3) (Int32.toNatClampNeg x2)) = (M (k1 + 3) (Int32.toNatClampNeg x2)) → ∀ x2_41 : Int32, x2_41 = x2 + 1 → R15 x2_41 M) ∧ (¬ (M (k0 + 3) (Int32.toNatClampNeg x2)) = (M (k1 + 3) (Int32.toNatClampNeg x2)) → Q 0 M))))
def lpX4_isSameAs_15 (k0 : Nat) (k1 : Nat) (Q : Int32 → pt_M → Prop)  : Nat → Int32 → pt_M → Prop
  | 0 => fun _ _ => False
  | n + 1 => fun x2 M => lbX4_isSameAs_15 k0 k1 Q (lpX4_isSameAs_15 k0 k1 Q n) x2 M
def wpX4_isSameAs (k0 : Nat) (k1 : Nat) (M : pt_M) (Q : Int32 → pt_M → Prop) : Prop :=
  ((M k0 3) = (M k1 3) → ∃ n : Nat, lpX4_isSameAs_15 k0 k1 Q n 0 M) ∧ (¬ (M k0 3) = (M k1 3) → Q 0 M)
set_option maxHeartbeats 4000000 in
set_option maxRecDepth 100000 in
theorem mtX4_isSameAs (l : Launch) (D : va_G) (cA : Nat → ClassId) (ad : Nat → Nat) (hI : pt_I ad) (sz : Nat) (k0 : Nat) (hk0 : pt_kd k0 = 4) (k1 : Nat) (hk1 : pt_kd k1 = 4) (M : pt_M) (Q : Int32 → pt_M → Prop) (hw : wpX4_isSameAs k0 k1 M Q) : Met l yX4_isSameAs (Cond.code yX4_isSameAs cX4_isSameAs 3 (some .boolean) :: lw_all) ({ frames := 1, cells := 0, slots := 0, locals := 21 } : Room) (va_Pc [.ref (ad k0), .ref (ad k1)] (pt_P D cA ad sz M)) (va_Qi Q (pt_B D cA ad) (pt_fr ad sz)) 0 0 (pt_fr ad sz) := by
  refine Met.ofW (cc := cX4_isSameAs) (maxL := 3) (ret := (some .boolean)) (by decide) rfl ?_
  intro p e s m args below meth c s₁ B hml hv
  obtain ⟨rfl, hsz, hP, hK⟩ := hv
  have hx := B.exec
  have hb := B.bytes
  have hr := B.returns
  have hts0 := atoms_spec (ws := (Cond.code yX4_isSameAs cX4_isSameAs 3 (some .boolean) :: lw_all)) B.pre
  have hown : s.vm.findClass RX4 = some m.cls := findClass_of_methodNamed B.named
  have hlocks := B.notSynchronized
  subst hsz
  have F : pt_F p m c cX4_isSameAs 3 s _ RX4 D cA := ⟨⟨hx, hb, hml, hown, fun w h => hts0 w (List.mem_cons_of_mem _ h)⟩, hK⟩
  have hD : ∀ M, va_D (pt_fr ad s.heap.size) (pt_W cA ad M) := pt_D hI (fun k h => Or.inl ⟨k, h, rfl⟩)
  have hS : va_S (pt_fr ad s.heap.size) s.heap s.heap [] := va_S.rf
  have hl := lv_entry ([.ref (ad k0), .ref (ad k1)]) (n := 3) (Nat.le_of_ble_eq_true rfl)
  rw [lg_entry_eq]
  generalize (lg_sl ([.ref (ad k0), .ref (ad k1)]) ++ List.replicate (3 - (lg_sl ([.ref (ad k0), .ref (ad k1)])).length) Slot.unset).toArray = ls at hl ⊢
  have hl : lv_has ls 3 [(0, .ref (ad k0)), (1, .ref (ad k1))] := hl
  have J98 : ∀ (M : pt_M) (H : Heap) (locs : List Loc) (ls : Array Slot), wjX4_isSameAs_98 k0 k1 Q M → va_P D pt_cl (pt_W cA ad M) H → va_S (pt_fr ad s.heap.size) s.heap H locs → lv_has ls 3 [] → W p l e (headSpec (Cond.code yX4_isSameAs cX4_isSameAs 3 (some .boolean) :: lw_all) ({ frames := 1, cells := 0, slots := 0, locals := 21 } : Room)).room s m ([.ref (ad k0), .ref (ad k1)] : List Value).toArray below meth c H locs 0 0 (MQ below (va_Qi Q (pt_B D cA ad) (pt_fr ad s.heap.size)) ([.ref (ad k0), .ref (ad k1)] : List Value).toArray s 0 0 (pt_fr ad s.heap.size)) (F0 m 98 ls []) := by
    intro M H locs ls hw hP hS hl
    unfold wjX4_isSameAs_98 at hw
    refine lv_iconst (v := 0) hx hb dX4_isSameAs_98 (by decide) ?_
    exact W.zret (v := 0) (ty := .boolean) hx hb hr rfl (fun t ht hW => ⟨⟨0, M, rfl, hw, by unfold pt_B; rw [ht]; exact hP⟩, hS.F ht⟩) hS.2.2 dX4_isSameAs_99
  have L49 : ∀ (n49 : Nat) (x2 : Int32) (M : pt_M) (H : Heap) (locs : List Loc) (ls : Array Slot), lpX4_isSameAs_49 k0 k1 Q n49 x2 M → va_P D pt_cl (pt_W cA ad M) H → va_S (pt_fr ad s.heap.size) s.heap H locs → lv_has ls 3 [(0, .ref (ad k0)), (1, .ref (ad k1)), (2, .int x2)] → W p l e (headSpec (Cond.code yX4_isSameAs cX4_isSameAs 3 (some .boolean) :: lw_all) ({ frames := 1, cells := 0, slots := 0, locals := 21 } : Room)).room s m ([.ref (ad k0), .ref (ad k1)] : List Value).toArray below meth c H locs 0 0 (MQ below (va_Qi Q (pt_B D cA ad) (pt_fr ad s.heap.size)) ([.ref (ad k0), .ref (ad k1)] : List Value).toArray s 0 0 (pt_fr ad s.heap.size)) (F0 m 49 ls []) := by
    intro n49
    induction n49 with
    | zero => intro x2 M H locs ls hw; exact hw.elim
    | succ n49 ih49 =>
      intro x2 M H locs ls hw hP hS hl
      replace hw : lbX4_isSameAs_49 k0 k1 Q (lpX4_isSameAs_49 k0 k1 Q n49) x2 M := hw
      unfold lbX4_isSameAs_49 at hw
      refine lv_iload_n hx hb dX4_isSameAs_49 rfl (lv_at hl 2 rfl) ?_
      refine lv_aload_n hx hb dX4_isSameAs_50 rfl (lv_at hl 0 rfl) ?_
      refine pt_get F hP (pt_c4 _ hk0) (pt_l4 hk0) inX4 rfl 0 (by decide) kw_267 rfl rfl dX4_isSameAs_51 ?_
      refine pt_alen (v := 20) F hP (pt_4a hk0) rfl dX4_isSameAs_54 ?_
      refine lv_icmp_ge (tgt := 106) hx hb dX4_isSameAs_55 (by decide) (fun hc55 => ?_) (fun hc55 => ?_)
      · replace hw := hw.1 hc55
        refine lv_iconst (v := 1) hx hb dX4_isSameAs_106 (by decide) ?_
        exact W.zret (v := 1) (ty := .boolean) hx hb hr rfl (fun t ht hW => ⟨⟨1, M, rfl, hw, by unfold pt_B; rw [ht]; exact hP⟩, hS.F ht⟩) hS.2.2 dX4_isSameAs_107
      · replace hw := hw.2 hc55
        refine lv_aload_n hx hb dX4_isSameAs_58 rfl (lv_at hl 0 rfl) ?_
        refine pt_get F hP (pt_c4 _ hk0) (pt_l4 hk0) inX4 rfl 0 (by decide) kw_267 rfl rfl dX4_isSameAs_59 ?_
        refine lv_iload_n hx hb dX4_isSameAs_62 rfl (lv_at hl 2 rfl) ?_
        have hv63 := hw.1
        replace hw := hw.2
        refine pt_iald F hP (pt_4a hk0) hv63 dX4_isSameAs_63 ?_
        refine lv_bipush (v := 50) hx hb dX4_isSameAs_64 (by decide) ?_
        refine va_mmin hx hb (hml.trans hl.1.symm) hown (F.1.2.2.2.2 _ kw_734) (F.1.2.2.2.2 _ kw_735) (F.1.2.2.2.2 _ kw_68) (F.1.2.2.2.2 _ kw_736) (Nat.le_of_ble_eq_true rfl) (Nat.le_of_ble_eq_true rfl) (Nat.zero_le _) (Nat.zero_le _) dX4_isSameAs_66 ?_
        refine lv_topi (fun r_66 er_66 => ?_)
        replace hw := hw r_66 er_66
        refine lv_aload_n hx hb dX4_isSameAs_69 rfl (lv_at hl 1 rfl) ?_
        refine pt_get F hP (pt_c4 _ hk1) (pt_l4 hk1) inX4 rfl 0 (by decide) kw_267 rfl rfl dX4_isSameAs_70 ?_
        refine lv_iload_n hx hb dX4_isSameAs_73 rfl (lv_at hl 2 rfl) ?_
        have hv74 := hw.1
        replace hw := hw.2
        refine pt_iald F hP (pt_4a hk1) hv74 dX4_isSameAs_74 ?_
        refine lv_bipush (v := 50) hx hb dX4_isSameAs_75 (by decide) ?_
        refine va_mmin hx hb (hml.trans hl.1.symm) hown (F.1.2.2.2.2 _ kw_734) (F.1.2.2.2.2 _ kw_735) (F.1.2.2.2.2 _ kw_68) (F.1.2.2.2.2 _ kw_736) (Nat.le_of_ble_eq_true rfl) (Nat.le_of_ble_eq_true rfl) (Nat.zero_le _) (Nat.zero_le _) dX4_isSameAs_77 ?_
        refine lv_topi (fun r_77 er_77 => ?_)
        replace hw := hw r_77 er_77
        refine lv_icmp_ne (tgt := 98) hx hb dX4_isSameAs_80 (by decide) (fun hc80 => ?_) (fun hc80 => ?_)
        · replace hw := hw.1 hc80
          exact J98 M _ _ _ hw hP hS (lv_sub hl [] rfl)
        · replace hw := hw.2 hc80
          refine lv_aload_n hx hb dX4_isSameAs_83 rfl (lv_at hl 0 rfl) ?_
          refine pt_get F hP (pt_c4 _ hk0) (pt_l4 hk0) inX4 rfl 1 (by decide) kw_270 rfl rfl dX4_isSameAs_84 ?_
          refine lv_iload_n hx hb dX4_isSameAs_87 rfl (lv_at hl 2 rfl) ?_
          have hv88 := hw.1
          replace hw := hw.2
          refine pt_iald F hP (pt_4r hk0) hv88 dX4_isSameAs_88 ?_
          refine lv_aload_n hx hb dX4_isSameAs_89 rfl (lv_at hl 1 rfl) ?_
          refine pt_get F hP (pt_c4 _ hk1) (pt_l4 hk1) inX4 rfl 1 (by decide) kw_270 rfl rfl dX4_isSameAs_90 ?_
          refine lv_iload_n hx hb dX4_isSameAs_93 rfl (lv_at hl 2 rfl) ?_
          have hv94 := hw.1
          replace hw := hw.2
          refine pt_iald F hP (pt_4r hk1) hv94 dX4_isSameAs_94 ?_
          refine lv_icmp_eq (tgt := 100) hx hb dX4_isSameAs_95 (by decide) (fun hc95 => ?_) (fun hc95 => ?_)
          · replace hw := hw.1 hc95
            obtain ⟨x2_100, ex2_100⟩ : ∃ y : Int32, y = x2 + 1 := ⟨_, rfl⟩
            replace hw := hw x2_100 ex2_100
            refine lv_iinc (v := x2_100) (lv' := [(2, .int x2_100), (0, .ref (ad k0)), (1, .ref (ad k1))]) hx hb dX4_isSameAs_100 hl (k := 2) rfl (by rw [ex2_100]; rfl) (by decide) rfl (fun ls hl => ?_)
            refine lv_goto (tgt := 49) hx hb dX4_isSameAs_103 (by decide) ?_
            exact ih49 x2_100 M _ _ _ hw hP hS (lv_sub hl [1, 2, 0] rfl)
          · replace hw := hw.2 hc95
            exact J98 M _ _ _ hw hP hS (lv_sub hl [] rfl)
  have L15 : ∀ (n15 : Nat) (x2 : Int32) (M : pt_M) (H : Heap) (locs : List Loc) (ls : Array Slot), lpX4_isSameAs_15 k0 k1 Q n15 x2 M → va_P D pt_cl (pt_W cA ad M) H → va_S (pt_fr ad s.heap.size) s.heap H locs → lv_has ls 3 [(0, .ref (ad k0)), (1, .ref (ad k1)), (2, .int x2)] → W p l e (headSpec (Cond.code yX4_isSameAs cX4_isSameAs 3 (some .boolean) :: lw_all) ({ frames := 1, cells := 0, slots := 0, locals := 21 } : Room)).room s m ([.ref (ad k0), .ref (ad k1)] : List Value).toArray below meth c H locs 0 0 (MQ below (va_Qi Q (pt_B D cA ad) (pt_fr ad s.heap.size)) ([.ref (ad k0), .ref (ad k1)] : List Value).toArray s 0 0 (pt_fr ad s.heap.size)) (F0 m 15 ls []) := by
    intro n15
    induction n15 with
    | zero => intro x2 M H locs ls hw; exact hw.elim
    | succ n15 ih15 =>
      intro x2 M H locs ls hw hP hS hl
      replace hw : lbX4_isSameAs_15 k0 k1 Q (lpX4_isSameAs_15 k0 k1 Q n15) x2 M := hw
      unfold lbX4_isSameAs_15 at hw
      refine lv_iload_n hx hb dX4_isSameAs_15 rfl (lv_at hl 2 rfl) ?_
      refine lv_aload_n hx hb dX4_isSameAs_16 rfl (lv_at hl 0 rfl) ?_
      refine pt_get F hP (pt_c4 _ hk0) (pt_l4 hk0) inX4 rfl 2 (by decide) kw_273 rfl rfl dX4_isSameAs_17 ?_
      refine pt_alen (v := 4) F hP (pt_4v hk0) rfl dX4_isSameAs_20 ?_
      refine lv_icmp_ge (tgt := 47) hx hb dX4_isSameAs_21 (by decide) (fun hc21 => ?_) (fun hc21 => ?_)
      · replace hw := hw.1 hc21
        refine lv_iconst (v := 0) hx hb dX4_isSameAs_47 (by decide) ?_
        refine lv_istore_n (lv' := [(2, .int 0), (0, .ref (ad k0)), (1, .ref (ad k1))]) hx hb dX4_isSameAs_48 rfl hl (by decide) rfl (fun ls hl => ?_)
        obtain ⟨n_, hw⟩ := hw
        exact L49 n_ 0 M _ _ _ hw hP hS (lv_sub hl [1, 2, 0] rfl)
      · replace hw := hw.2 hc21
        refine lv_aload_n hx hb dX4_isSameAs_24 rfl (lv_at hl 0 rfl) ?_
        refine pt_get F hP (pt_c4 _ hk0) (pt_l4 hk0) inX4 rfl 2 (by decide) kw_273 rfl rfl dX4_isSameAs_25 ?_
        refine lv_iload_n hx hb dX4_isSameAs_28 rfl (lv_at hl 2 rfl) ?_
        have hv29 := hw.1
        replace hw := hw.2
        refine pt_iald F hP (pt_4v hk0) hv29 dX4_isSameAs_29 ?_
        refine lv_aload_n hx hb dX4_isSameAs_30 rfl (lv_at hl 1 rfl) ?_
        refine pt_get F hP (pt_c4 _ hk1) (pt_l4 hk1) inX4 rfl 2 (by decide) kw_273 rfl rfl dX4_isSameAs_31 ?_
        refine lv_iload_n hx hb dX4_isSameAs_34 rfl (lv_at hl 2 rfl) ?_
        have hv35 := hw.1
        replace hw := hw.2
        refine pt_iald F hP (pt_4v hk1) hv35 dX4_isSameAs_35 ?_
        refine lv_icmp_eq (tgt := 41) hx hb dX4_isSameAs_36 (by decide) (fun hc36 => ?_) (fun hc36 => ?_)
        · replace hw := hw.1 hc36
          obtain ⟨x2_41, ex2_41⟩ : ∃ y : Int32, y = x2 + 1 := ⟨_, rfl⟩
          replace hw := hw x2_41 ex2_41
          refine lv_iinc (v := x2_41) (lv' := [(2, .int x2_41), (0, .ref (ad k0)), (1, .ref (ad k1))]) hx hb dX4_isSameAs_41 hl (k := 2) rfl (by rw [ex2_41]; rfl) (by decide) rfl (fun ls hl => ?_)
          refine lv_goto (tgt := 15) hx hb dX4_isSameAs_44 (by decide) ?_
          exact ih15 x2_41 M _ _ _ hw hP hS (lv_sub hl [1, 2, 0] rfl)
        · replace hw := hw.2 hc36
          refine lv_iconst (v := 0) hx hb dX4_isSameAs_39 (by decide) ?_
          exact W.zret (v := 0) (ty := .boolean) hx hb hr rfl (fun t ht hW => ⟨⟨0, M, rfl, hw, by unfold pt_B; rw [ht]; exact hP⟩, hS.F ht⟩) hS.2.2 dX4_isSameAs_40
  unfold wpX4_isSameAs at hw
  refine lv_aload_n hx hb dX4_isSameAs_0 rfl (lv_at hl 0 rfl) ?_
  refine pt_get F hP (pt_c4 _ hk0) (pt_l4 hk0) inX4 rfl 3 (by decide) kw_276 rfl rfl dX4_isSameAs_1 ?_
  refine lv_aload_n hx hb dX4_isSameAs_4 rfl (lv_at hl 1 rfl) ?_
  refine pt_get F hP (pt_c4 _ hk1) (pt_l4 hk1) inX4 rfl 3 (by decide) kw_276 rfl rfl dX4_isSameAs_5 ?_
  refine lv_icmp_eq (tgt := 13) hx hb dX4_isSameAs_8 (by decide) (fun hc8 => ?_) (fun hc8 => ?_)
  · replace hw := hw.1 hc8
    refine lv_iconst (v := 0) hx hb dX4_isSameAs_13 (by decide) ?_
    refine lv_istore_n (lv' := [(2, .int 0), (0, .ref (ad k0)), (1, .ref (ad k1))]) hx hb dX4_isSameAs_14 rfl hl (by decide) rfl (fun ls hl => ?_)
    obtain ⟨n_, hw⟩ := hw
    exact L15 n_ 0 M _ _ _ hw hP hS (lv_sub hl [1, 2, 0] rfl)
  · replace hw := hw.2 hc8
    refine lv_iconst (v := 0) hx hb dX4_isSameAs_11 (by decide) ?_
    exact W.zret (v := 0) (ty := .boolean) hx hb hr rfl (fun t ht hW => ⟨⟨0, M, rfl, hw, by unfold pt_B; rw [ht]; exact hP⟩, hS.F ht⟩) hS.2.2 dX4_isSameAs_12
-- ===== X1_putState
def wjX1_putState_148 (p1 : Int32) (p2 : Int32) (Q : Int32 → pt_M → Prop)  (x3 : Int32) (M : pt_M) : Prop :=
  Q x3 M
def wjX1_putState_130 (p1 : Int32) (p2 : Int32) (Q : Int32 → pt_M → Prop)  (x3 : Int32) (M : pt_M) : Prop :=
  (¬ p2 = 2 → wjX1_putState_148 p1 p2 Q x3 M) ∧ (p2 = 2 → wpX7_setOf x3 M (fun (r_141 : Int32) (M_141 : pt_M) => ∀ M_145 : pt_M, M_145 = pt_st M_141 1 6 ((M 1 6) ||| r_141) → wjX1_putState_148 p1 p2 Q x3 M_145))
def wjX1_putState_86 (p1 : Int32) (p2 : Int32) (Q : Int32 → pt_M → Prop) (R38 : Int32 → Nat → Int32 → pt_M → Prop) (x3 : Int32) (q4 : Nat) (x5 : Int32) (M : pt_M) : Prop :=
  ∀ x5_86 : Int32, x5_86 = x5 + 1 → R38 x3 q4 x5_86 M
def wjX1_putState_67 (p1 : Int32) (p2 : Int32) (Q : Int32 → pt_M → Prop) (R38 : Int32 → Nat → Int32 → pt_M → Prop) (x3 : Int32) (q4 : Nat) (x5 : Int32) (M : pt_M) : Prop :=
  vp_in x5 20 ∧ (wpX7_setOf x3 M (fun (r_79 : Int32) (M_79 : pt_M) => ∀ M_83 : pt_M, M_83 = pt_st M_79 (pt_s x5) 7 ((M (pt_s x5) 7) ||| r_79) → wjX1_putState_86 p1 p2 Q R38 x3 q4 x5 M_83))
def lbX1_putState_38 (p1 : Int32) (p2 : Int32) (Q : Int32 → pt_M → Prop)  (R38 : Int32 → Nat → Int32 → pt_M → Prop) (x3 : Int32) (q4 : Nat) (x5 : Int32) (M : pt_M) : Prop :=
  (x3 ≤ x5 → wpX5_isMark q4 M (fun (r_94 : Int32) (M_94 : pt_M) => (¬ r_94 = 0 → wjX1_putState_130 p1 p2 Q x3 M_94) ∧ (r_94 = 0 → vp_in p1 20 ∧ (wpX5_putPart (pt_s p1) x3 M_94 (fun (M_107 : pt_M) => wpX7_setOf p1 M_107 (fun (r_116 : Int32) (M_116 : pt_M) => wpX7_setOf x3 M_116 (fun (r_123 : Int32) (M_123 : pt_M) => ∀ M_127 : pt_M, M_127 = pt_st M_123 1 5 (((M_107 1 5) &&& (r_116 ^^^ (-1))) ||| r_123) → wjX1_putState_130 p1 p2 Q x3 M_127))))))) ∧ (¬ x3 ≤ x5 → (x5 = p1 → wjX1_putState_67 p1 p2 Q R38 x3 q4 x5 M) ∧ (¬ x5 = p1 → vp_in x5 20 ∧ (wpX7_has (M (pt_s x5) 7) p1 M (fun (r_61 : Int32) (M_61 : pt_M) => (r_61 = 0 → wjX1_putState_86 p1 p2 Q R38 x3 q4 x5 M_61) ∧ (¬ r_61 = 0 → wjX1_putState_67 p1 p2 Q R38 x3 q4 x5 M_61)))))
def lpX1_putState_38 (p1 : Int32) (p2 : Int32) (Q : Int32 → pt_M → Prop)  : Nat → Int32 → Nat → Int32 → pt_M → Prop
  | 0 => fun _ _ _ _ => False
  | n + 1 => fun x3 q4 x5 M => lbX1_putState_38 p1 p2 Q (lpX1_putState_38 p1 p2 Q n) x3 q4 x5 M
def wpX1_putState (p1 : Int32) (p2 : Int32) (M : pt_M) (Q : Int32 → pt_M → Prop) : Prop :=
  ∀ x3_4 : Int32, x3_4 = (M 1 3) → vp_in x3_4 20 ∧ (∀ M_16 : pt_M, M_16 = pt_st M (pt_s x3_4) 2 p2 → ∀ M_22 : pt_M, M_22 = pt_st M_16 (pt_s x3_4) 3 p1 → ∀ M_32 : pt_M, M_32 = pt_st M_22 1 3 ((M_22 1 3) + 1) → ∃ n : Nat, lpX1_putState_38 p1 p2 Q n x3_4 (pt_s x3_4) 0 M_32)
set_option maxHeartbeats 4000000 in
set_option maxRecDepth 100000 in
theorem mtX1_putState (l : Launch) (D : va_G) (cA : Nat → ClassId) (ad : Nat → Nat) (hI : pt_I ad) (sz : Nat) (p1 : Int32) (p2 : Int32) (M : pt_M) (Q : Int32 → pt_M → Prop) (hw : wpX1_putState p1 p2 M Q) : Met l yX1_putState (Cond.code yX1_putState cX1_putState 6 (some .int) :: lw_all) ({ frames := 3, cells := 0, slots := 0, locals := 62 } : Room) (va_Pc [.ref (ad 1), .int p1, .int p2] (pt_P D cA ad sz M)) (va_Qi Q (pt_B D cA ad) (pt_fr ad sz)) 0 0 (pt_fr ad sz) := by
  refine Met.ofW (cc := cX1_putState) (maxL := 6) (ret := (some .int)) (by decide) rfl ?_
  intro p e s m args below meth c s₁ B hml hv
  obtain ⟨rfl, hsz, hP, hK⟩ := hv
  have hx := B.exec
  have hb := B.bytes
  have hr := B.returns
  have hts0 := atoms_spec (ws := (Cond.code yX1_putState cX1_putState 6 (some .int) :: lw_all)) B.pre
  have hown : s.vm.findClass RX1 = some m.cls := findClass_of_methodNamed B.named
  have hlocks := B.notSynchronized
  subst hsz
  have F : pt_F p m c cX1_putState 6 s _ RX1 D cA := ⟨⟨hx, hb, hml, hown, fun w h => hts0 w (List.mem_cons_of_mem _ h)⟩, hK⟩
  have hD : ∀ M, va_D (pt_fr ad s.heap.size) (pt_W cA ad M) := pt_D hI (fun k h => Or.inl ⟨k, h, rfl⟩)
  have hS : va_S (pt_fr ad s.heap.size) s.heap s.heap [] := va_S.rf
  have hl := lv_entry ([.ref (ad 1), .int p1, .int p2]) (n := 6) (Nat.le_of_ble_eq_true rfl)
  rw [lg_entry_eq]
  generalize (lg_sl ([.ref (ad 1), .int p1, .int p2]) ++ List.replicate (6 - (lg_sl ([.ref (ad 1), .int p1, .int p2])).length) Slot.unset).toArray = ls at hl ⊢
  have hl : lv_has ls 6 [(0, .ref (ad 1)), (1, .int p1), (2, .int p2)] := hl
  have J148 : ∀ (x3 : Int32) (M : pt_M) (H : Heap) (locs : List Loc) (ls : Array Slot), wjX1_putState_148 p1 p2 Q x3 M → va_P D pt_cl (pt_W cA ad M) H → va_S (pt_fr ad s.heap.size) s.heap H locs → lv_has ls 6 [(3, .int x3)] → W p l e (headSpec (Cond.code yX1_putState cX1_putState 6 (some .int) :: lw_all) ({ frames := 3, cells := 0, slots := 0, locals := 62 } : Room)).room s m ([.ref (ad 1), .int p1, .int p2] : List Value).toArray below meth c H locs 0 0 (MQ below (va_Qi Q (pt_B D cA ad) (pt_fr ad s.heap.size)) ([.ref (ad 1), .int p1, .int p2] : List Value).toArray s 0 0 (pt_fr ad s.heap.size)) (F0 m 148 ls []) := by
    intro x3 M H locs ls hw hP hS hl
    unfold wjX1_putState_148 at hw
    refine lv_iload_n hx hb dX1_putState_148 rfl (lv_at hl 0 rfl) ?_
    exact W.iret (v := x3) hx hb hr (fun t ht hW => ⟨⟨x3, M, rfl, hw, by unfold pt_B; rw [ht]; exact hP⟩, hS.F ht⟩) hS.2.2 dX1_putState_149
  have J130 : ∀ (x3 : Int32) (M : pt_M) (H : Heap) (locs : List Loc) (ls : Array Slot), wjX1_putState_130 p1 p2 Q x3 M → va_P D pt_cl (pt_W cA ad M) H → va_S (pt_fr ad s.heap.size) s.heap H locs → lv_has ls 6 [(0, .ref (ad 1)), (2, .int p2), (3, .int x3)] → W p l e (headSpec (Cond.code yX1_putState cX1_putState 6 (some .int) :: lw_all) ({ frames := 3, cells := 0, slots := 0, locals := 62 } : Room)).room s m ([.ref (ad 1), .int p1, .int p2] : List Value).toArray below meth c H locs 0 0 (MQ below (va_Qi Q (pt_B D cA ad) (pt_fr ad s.heap.size)) ([.ref (ad 1), .int p1, .int p2] : List Value).toArray s 0 0 (pt_fr ad s.heap.size)) (F0 m 130 ls []) := by
    intro x3 M H locs ls hw hP hS hl
    unfold wjX1_putState_130 at hw
    refine lv_iload_n hx hb dX1_putState_130 rfl (lv_at hl 1 rfl) ?_
    refine lv_iconst (v := 2) hx hb dX1_putState_131 (by decide) ?_
    refine lv_icmp_ne (tgt := 148) hx hb dX1_putState_132 (by decide) (fun hc132 => ?_) (fun hc132 => ?_)
    · replace hw := hw.1 hc132
      exact J148 x3 M _ _ _ hw hP hS (lv_sub hl [2] rfl)
    · replace hw := hw.2 hc132
      refine lv_aload_n hx hb dX1_putState_135 rfl (lv_at hl 0 rfl) ?_
      refine lv_dup hx hb dX1_putState_136 rfl ?_
      refine pt_get F hP (pt_c1 _ pt_k1) (pt_l1 pt_k1) inX1 rfl 6 (by decide) kw_238 rfl rfl dX1_putState_137 ?_
      refine lv_iload_n hx hb dX1_putState_140 rfl (lv_at hl 2 rfl) ?_
      refine pt_calli (pt_runSN (n := 1) (As := [.int x3]) (rest := [.int (M 1 6), .ref (ad 1)]) F hP (mtX7_setOf l D cA ad hI _ x3 M _ hw) kw_103 kw_101 kw_52 kw_102 ⟨by decide, by decide, by decide +kernel⟩ ⟨rfl, rfl, Nat.le_of_ble_eq_true rfl, Nat.le_of_ble_eq_true rfl⟩ rfl hl.1 rfl (Nat.le_of_ble_eq_true rfl) dX1_putState_141 ⟨Nat.zero_le _, Nat.zero_le _⟩) hS (fun _ h => h) (fun r_141 M_141 H locs hw hP hS _ _ => ?_)
      refine lv_ior hx hb dX1_putState_144 ?_
      refine pt_put F hP hD hS (pt_c1 _ pt_k1) (pt_l1 pt_k1) inX1 tyX1 tyX1_ok nmX1 rfl 6 (by decide) kw_238 rfl rfl rfl rfl (Nat.le_of_ble_eq_true rfl) (pt_c1 _ pt_k1) dX1_putState_145 (fun M_145 H locs eM_145 hP hS => ?_)
      replace hw := hw M_145 eM_145
      exact J148 x3 M_145 _ _ _ hw hP hS (lv_sub hl [2] rfl)
  have L38 : ∀ (n38 : Nat) (x3 : Int32) (q4 : Nat) (hq4 : pt_kd q4 = 5) (x5 : Int32) (M : pt_M) (H : Heap) (locs : List Loc) (ls : Array Slot), lpX1_putState_38 p1 p2 Q n38 x3 q4 x5 M → va_P D pt_cl (pt_W cA ad M) H → va_S (pt_fr ad s.heap.size) s.heap H locs → lv_has ls 6 [(0, .ref (ad 1)), (1, .int p1), (2, .int p2), (3, .int x3), (4, .ref (ad q4)), (5, .int x5)] → W p l e (headSpec (Cond.code yX1_putState cX1_putState 6 (some .int) :: lw_all) ({ frames := 3, cells := 0, slots := 0, locals := 62 } : Room)).room s m ([.ref (ad 1), .int p1, .int p2] : List Value).toArray below meth c H locs 0 0 (MQ below (va_Qi Q (pt_B D cA ad) (pt_fr ad s.heap.size)) ([.ref (ad 1), .int p1, .int p2] : List Value).toArray s 0 0 (pt_fr ad s.heap.size)) (F0 m 38 ls []) := by
    intro n38
    induction n38 with
    | zero => intro x3 q4 hq4 x5 M H locs ls hw; exact hw.elim
    | succ n38 ih38 =>
      have J86 : ∀ (x3 : Int32) (q4 : Nat) (hq4 : pt_kd q4 = 5) (x5 : Int32) (M : pt_M) (H : Heap) (locs : List Loc) (ls : Array Slot), wjX1_putState_86 p1 p2 Q (lpX1_putState_38 p1 p2 Q n38) x3 q4 x5 M → va_P D pt_cl (pt_W cA ad M) H → va_S (pt_fr ad s.heap.size) s.heap H locs → lv_has ls 6 [(0, .ref (ad 1)), (1, .int p1), (2, .int p2), (3, .int x3), (4, .ref (ad q4)), (5, .int x5)] → W p l e (headSpec (Cond.code yX1_putState cX1_putState 6 (some .int) :: lw_all) ({ frames := 3, cells := 0, slots := 0, locals := 62 } : Room)).room s m ([.ref (ad 1), .int p1, .int p2] : List Value).toArray below meth c H locs 0 0 (MQ below (va_Qi Q (pt_B D cA ad) (pt_fr ad s.heap.size)) ([.ref (ad 1), .int p1, .int p2] : List Value).toArray s 0 0 (pt_fr ad s.heap.size)) (F0 m 86 ls []) := by
        intro x3 q4 hq4 x5 M H locs ls hw hP hS hl
        unfold wjX1_putState_86 at hw
        obtain ⟨x5_86, ex5_86⟩ : ∃ y : Int32, y = x5 + 1 := ⟨_, rfl⟩
        replace hw := hw x5_86 ex5_86
        refine lv_iinc (v := x5_86) (lv' := [(5, .int x5_86), (0, .ref (ad 1)), (1, .int p1), (2, .int p2), (3, .int x3), (4, .ref (ad q4))]) hx hb dX1_putState_86 hl (k := 5) rfl (by rw [ex5_86]; rfl) (by decide) rfl (fun ls hl => ?_)
        refine lv_goto (tgt := 38) hx hb dX1_putState_89 (by decide) ?_
        exact ih38 x3 q4 hq4 x5_86 M _ _ _ hw hP hS (lv_sub hl [1, 2, 3, 4, 5, 0] rfl)
      have J67 : ∀ (x3 : Int32) (q4 : Nat) (hq4 : pt_kd q4 = 5) (x5 : Int32) (M : pt_M) (H : Heap) (locs : List Loc) (ls : Array Slot), wjX1_putState_67 p1 p2 Q (lpX1_putState_38 p1 p2 Q n38) x3 q4 x5 M → va_P D pt_cl (pt_W cA ad M) H → va_S (pt_fr ad s.heap.size) s.heap H locs → lv_has ls 6 [(0, .ref (ad 1)), (1, .int p1), (2, .int p2), (3, .int x3), (4, .ref (ad q4)), (5, .int x5)] → W p l e (headSpec (Cond.code yX1_putState cX1_putState 6 (some .int) :: lw_all) ({ frames := 3, cells := 0, slots := 0, locals := 62 } : Room)).room s m ([.ref (ad 1), .int p1, .int p2] : List Value).toArray below meth c H locs 0 0 (MQ below (va_Qi Q (pt_B D cA ad) (pt_fr ad s.heap.size)) ([.ref (ad 1), .int p1, .int p2] : List Value).toArray s 0 0 (pt_fr ad s.heap.size)) (F0 m 67 ls []) := by
        intro x3 q4 hq4 x5 M H locs ls hw hP hS hl
        unfold wjX1_putState_67 at hw
        refine lv_aload_n hx hb dX1_putState_67 rfl (lv_at hl 0 rfl) ?_
        refine pt_get F hP (pt_c1 _ pt_k1) (pt_l1 pt_k1) inX1 rfl 0 (by decide) kw_222 rfl rfl dX1_putState_68 ?_
        refine lv_iload hx hb dX1_putState_71 (lv_at hl 5 rfl) ?_
        have hv73 := hw.1
        replace hw := hw.2
        refine pt_alds F hP hv73 dX1_putState_73 ?_
        refine lv_dup hx hb dX1_putState_74 rfl ?_
        refine pt_get F hP (pt_c5 _ (pt_ks hv73)) (pt_l5 (pt_ks hv73)) inX5 rfl 7 (by decide) kw_152 rfl rfl dX1_putState_75 ?_
        refine lv_iload_n hx hb dX1_putState_78 rfl (lv_at hl 3 rfl) ?_
        refine pt_calli (pt_runSN (n := 1) (As := [.int x3]) (rest := [.int (M (pt_s x5) 7), .ref (ad (pt_s x5))]) F hP (mtX7_setOf l D cA ad hI _ x3 M _ hw) kw_103 kw_101 kw_52 kw_102 ⟨by decide, by decide, by decide +kernel⟩ ⟨rfl, rfl, Nat.le_of_ble_eq_true rfl, Nat.le_of_ble_eq_true rfl⟩ rfl hl.1 rfl (Nat.le_of_ble_eq_true rfl) dX1_putState_79 ⟨Nat.zero_le _, Nat.zero_le _⟩) hS (fun _ h => h) (fun r_79 M_79 H locs hw hP hS _ _ => ?_)
        refine lv_ior hx hb dX1_putState_82 ?_
        refine pt_put F hP hD hS (pt_c5 _ (pt_ks hv73)) (pt_l5 (pt_ks hv73)) inX5 tyX5 tyX5_ok nmX5 rfl 7 (by decide) kw_152 rfl rfl rfl rfl (Nat.le_of_ble_eq_true rfl) (pt_c5 _ (pt_ks hv73)) dX1_putState_83 (fun M_83 H locs eM_83 hP hS => ?_)
        replace hw := hw M_83 eM_83
        exact J86 x3 q4 hq4 x5 M_83 _ _ _ hw hP hS (lv_sub hl [0, 1, 2, 3, 4, 5] rfl)
      intro x3 q4 hq4 x5 M H locs ls hw hP hS hl
      replace hw : lbX1_putState_38 p1 p2 Q (lpX1_putState_38 p1 p2 Q n38) x3 q4 x5 M := hw
      unfold lbX1_putState_38 at hw
      refine lv_iload hx hb dX1_putState_38 (lv_at hl 5 rfl) ?_
      refine lv_iload_n hx hb dX1_putState_40 rfl (lv_at hl 3 rfl) ?_
      refine lv_icmp_ge (tgt := 92) hx hb dX1_putState_41 (by decide) (fun hc41 => ?_) (fun hc41 => ?_)
      · replace hw := hw.1 hc41
        refine lv_aload hx hb dX1_putState_92 (lv_at hl 4 rfl) ?_
        refine pt_calli (pt_runV (n := 0) (As := []) (rest := []) F hP (pt_c5 _ hq4) (pt_l5 hq4) rfl (mtX5_isMark l D cA ad hI _ q4 hq4 M _ hw) kw_567 kw_619 kw_54 kw_565 kw_566 ⟨by decide, by decide, by decide +kernel⟩ ⟨rfl, rfl, Nat.le_of_ble_eq_true rfl, Nat.le_of_ble_eq_true rfl⟩ rfl hl.1 rfl (Nat.le_of_ble_eq_true rfl) dX1_putState_94 ⟨Nat.zero_le _, Nat.zero_le _⟩) hS (fun _ h => h) (fun r_94 M_94 H locs hw hP hS _ _ => ?_)
        refine lv_if_ne (tgt := 130) hx hb dX1_putState_97 (by decide) (fun hc97 => ?_) (fun hc97 => ?_)
        · replace hw := hw.1 hc97
          exact J130 x3 M_94 _ _ _ hw hP hS (lv_sub hl [0, 2, 3] rfl)
        · replace hw := hw.2 hc97
          refine lv_aload_n hx hb dX1_putState_100 rfl (lv_at hl 0 rfl) ?_
          refine pt_get F hP (pt_c1 _ pt_k1) (pt_l1 pt_k1) inX1 rfl 0 (by decide) kw_222 rfl rfl dX1_putState_101 ?_
          refine lv_iload_n hx hb dX1_putState_104 rfl (lv_at hl 1 rfl) ?_
          have hv105 := hw.1
          replace hw := hw.2
          refine pt_alds F hP hv105 dX1_putState_105 ?_
          refine lv_iload_n hx hb dX1_putState_106 rfl (lv_at hl 3 rfl) ?_
          refine pt_callv (pt_runV (n := 1) (As := [.int x3]) (rest := []) F hP (pt_c5 _ (pt_ks hv105)) (pt_l5 (pt_ks hv105)) rfl (mtX5_putPart l D cA ad hI _ (pt_s p1) (pt_ks hv105) x3 M_94 _ hw) kw_623 kw_620 kw_54 kw_621 kw_622 ⟨by decide, by decide, by decide +kernel⟩ ⟨rfl, rfl, Nat.le_of_ble_eq_true rfl, Nat.le_of_ble_eq_true rfl⟩ rfl hl.1 rfl (Nat.le_of_ble_eq_true rfl) dX1_putState_107 ⟨Nat.zero_le _, Nat.zero_le _⟩) hS (fun _ h => h) (fun M_107 H locs hw hP hS _ _ => ?_)
          refine lv_aload_n hx hb dX1_putState_110 rfl (lv_at hl 0 rfl) ?_
          refine lv_aload_n hx hb dX1_putState_111 rfl (lv_at hl 0 rfl) ?_
          refine pt_get F hP (pt_c1 _ pt_k1) (pt_l1 pt_k1) inX1 rfl 5 (by decide) kw_236 rfl rfl dX1_putState_112 ?_
          refine lv_iload_n hx hb dX1_putState_115 rfl (lv_at hl 1 rfl) ?_
          refine pt_calli (pt_runSN (n := 1) (As := [.int p1]) (rest := [.int (M_107 1 5), .ref (ad 1)]) F hP (mtX7_setOf l D cA ad hI _ p1 M_107 _ hw) kw_103 kw_101 kw_52 kw_102 ⟨by decide, by decide, by decide +kernel⟩ ⟨rfl, rfl, Nat.le_of_ble_eq_true rfl, Nat.le_of_ble_eq_true rfl⟩ rfl hl.1 rfl (Nat.le_of_ble_eq_true rfl) dX1_putState_116 ⟨Nat.zero_le _, Nat.zero_le _⟩) hS (fun _ h => h) (fun r_116 M_116 H locs hw hP hS _ _ => ?_)
          refine lv_iconst (v := (-1)) hx hb dX1_putState_119 (by decide) ?_
          refine lv_ixor hx hb dX1_putState_120 ?_
          refine lv_iand hx hb dX1_putState_121 ?_
          refine lv_iload_n hx hb dX1_putState_122 rfl (lv_at hl 3 rfl) ?_
          refine pt_calli (pt_runSN (n := 1) (As := [.int x3]) (rest := [.int ((M_107 1 5) &&& (r_116 ^^^ (-1))), .ref (ad 1)]) F hP (mtX7_setOf l D cA ad hI _ x3 M_116 _ hw) kw_103 kw_101 kw_52 kw_102 ⟨by decide, by decide, by decide +kernel⟩ ⟨rfl, rfl, Nat.le_of_ble_eq_true rfl, Nat.le_of_ble_eq_true rfl⟩ rfl hl.1 rfl (Nat.le_of_ble_eq_true rfl) dX1_putState_123 ⟨Nat.zero_le _, Nat.zero_le _⟩) hS (fun _ h => h) (fun r_123 M_123 H locs hw hP hS _ _ => ?_)
          refine lv_ior hx hb dX1_putState_126 ?_
          refine pt_put F hP hD hS (pt_c1 _ pt_k1) (pt_l1 pt_k1) inX1 tyX1 tyX1_ok nmX1 rfl 5 (by decide) kw_236 rfl rfl rfl rfl (Nat.le_of_ble_eq_true rfl) (pt_c1 _ pt_k1) dX1_putState_127 (fun M_127 H locs eM_127 hP hS => ?_)
          replace hw := hw M_127 eM_127
          exact J130 x3 M_127 _ _ _ hw hP hS (lv_sub hl [0, 2, 3] rfl)
      · replace hw := hw.2 hc41
        refine lv_iload hx hb dX1_putState_44 (lv_at hl 5 rfl) ?_
        refine lv_iload_n hx hb dX1_putState_46 rfl (lv_at hl 1 rfl) ?_
        refine lv_icmp_eq (tgt := 67) hx hb dX1_putState_47 (by decide) (fun hc47 => ?_) (fun hc47 => ?_)
        · replace hw := hw.1 hc47
          exact J67 x3 q4 hq4 x5 M _ _ _ hw hP hS (lv_sub hl [0, 1, 2, 3, 4, 5] rfl)
        · replace hw := hw.2 hc47
          refine lv_aload_n hx hb dX1_putState_50 rfl (lv_at hl 0 rfl) ?_
          refine pt_get F hP (pt_c1 _ pt_k1) (pt_l1 pt_k1) inX1 rfl 0 (by decide) kw_222 rfl rfl dX1_putState_51 ?_
          refine lv_iload hx hb dX1_putState_54 (lv_at hl 5 rfl) ?_
          have hv56 := hw.1
          replace hw := hw.2
          refine pt_alds F hP hv56 dX1_putState_56 ?_
          refine pt_get F hP (pt_c5 _ (pt_ks hv56)) (pt_l5 (pt_ks hv56)) inX5 rfl 7 (by decide) kw_152 rfl rfl dX1_putState_57 ?_
          refine lv_iload_n hx hb dX1_putState_60 rfl (lv_at hl 1 rfl) ?_
          refine pt_calli (pt_runSN (n := 2) (As := [.int (M (pt_s x5) 7), .int p1]) (rest := []) F hP (mtX7_has l D cA ad hI _ (M (pt_s x5) 7) p1 M _ hw) kw_449 kw_618 kw_52 kw_448 ⟨by decide, by decide, by decide +kernel⟩ ⟨rfl, rfl, Nat.le_of_ble_eq_true rfl, Nat.le_of_ble_eq_true rfl⟩ rfl hl.1 rfl (Nat.le_of_ble_eq_true rfl) dX1_putState_61 ⟨Nat.zero_le _, Nat.zero_le _⟩) hS (fun _ h => h) (fun r_61 M_61 H locs hw hP hS _ _ => ?_)
          refine lv_if_eq (tgt := 86) hx hb dX1_putState_64 (by decide) (fun hc64 => ?_) (fun hc64 => ?_)
          · replace hw := hw.1 hc64
            exact J86 x3 q4 hq4 x5 M_61 _ _ _ hw hP hS (lv_sub hl [0, 1, 2, 3, 4, 5] rfl)
          · replace hw := hw.2 hc64
            exact J67 x3 q4 hq4 x5 M_61 _ _ _ hw hP hS (lv_sub hl [0, 1, 2, 3, 4, 5] rfl)
  unfold wpX1_putState at hw
  refine lv_aload_n hx hb dX1_putState_0 rfl (lv_at hl 0 rfl) ?_
  refine pt_get F hP (pt_c1 _ pt_k1) (pt_l1 pt_k1) inX1 rfl 3 (by decide) kw_230 rfl rfl dX1_putState_1 ?_
  refine lv_topi (fun x3_4 ex3_4 => ?_)
  replace hw := hw x3_4 ex3_4
  refine lv_istore_n (lv' := [(3, .int x3_4), (0, .ref (ad 1)), (1, .int p1), (2, .int p2)]) hx hb dX1_putState_4 rfl hl (by decide) rfl (fun ls hl => ?_)
  refine lv_aload_n hx hb dX1_putState_5 rfl (lv_at hl 1 rfl) ?_
  refine pt_get F hP (pt_c1 _ pt_k1) (pt_l1 pt_k1) inX1 rfl 0 (by decide) kw_222 rfl rfl dX1_putState_6 ?_
  refine lv_iload_n hx hb dX1_putState_9 rfl (lv_at hl 0 rfl) ?_
  have hv10 := hw.1
  replace hw := hw.2
  refine pt_alds F hP hv10 dX1_putState_10 ?_
  refine lv_astore (lv' := [(4, .ref (ad (pt_s x3_4))), (3, .int x3_4), (0, .ref (ad 1)), (1, .int p1), (2, .int p2)]) hx hb dX1_putState_11 hl (by decide) rfl (fun ls hl => ?_)
  refine lv_aload hx hb dX1_putState_13 (lv_at hl 0 rfl) ?_
  refine lv_iload_n hx hb dX1_putState_15 rfl (lv_at hl 4 rfl) ?_
  refine pt_put F hP hD hS (pt_c5 _ (pt_ks hv10)) (pt_l5 (pt_ks hv10)) inX5 tyX5 tyX5_ok nmX5 rfl 2 (by decide) kw_136 rfl rfl rfl rfl (Nat.le_of_ble_eq_true rfl) (pt_c5 _ (pt_ks hv10)) dX1_putState_16 (fun M_16 H locs eM_16 hP hS => ?_)
  replace hw := hw M_16 eM_16
  refine lv_aload hx hb dX1_putState_19 (lv_at hl 0 rfl) ?_
  refine lv_iload_n hx hb dX1_putState_21 rfl (lv_at hl 3 rfl) ?_
  refine pt_put F hP hD hS (pt_c5 _ (pt_ks hv10)) (pt_l5 (pt_ks hv10)) inX5 tyX5 tyX5_ok nmX5 rfl 3 (by decide) kw_140 rfl rfl rfl rfl (Nat.le_of_ble_eq_true rfl) (pt_c5 _ (pt_ks hv10)) dX1_putState_22 (fun M_22 H locs eM_22 hP hS => ?_)
  replace hw := hw M_22 eM_22
  refine lv_aload_n hx hb dX1_putState_25 rfl (lv_at hl 2 rfl) ?_
  refine lv_dup hx hb dX1_putState_26 rfl ?_
  refine pt_get F hP (pt_c1 _ pt_k1) (pt_l1 pt_k1) inX1 rfl 3 (by decide) kw_230 rfl rfl dX1_putState_27 ?_
  refine lv_iconst (v := 1) hx hb dX1_putState_30 (by decide) ?_
  refine lv_iadd hx hb dX1_putState_31 ?_
  refine pt_put F hP hD hS (pt_c1 _ pt_k1) (pt_l1 pt_k1) inX1 tyX1 tyX1_ok nmX1 rfl 3 (by decide) kw_230 rfl rfl rfl rfl (Nat.le_of_ble_eq_true rfl) (pt_c1 _ pt_k1) dX1_putState_32 (fun M_32 H locs eM_32 hP hS => ?_)
  replace hw := hw M_32 eM_32
  refine lv_iconst (v := 0) hx hb dX1_putState_35 (by decide) ?_
  refine lv_istore (lv' := [(5, .int 0), (4, .ref (ad (pt_s x3_4))), (3, .int x3_4), (0, .ref (ad 1)), (1, .int p1), (2, .int p2)]) hx hb dX1_putState_36 hl (by decide) rfl (fun ls hl => ?_)
  obtain ⟨n_, hw⟩ := hw
  exact L38 n_ x3_4 (pt_s x3_4) (pt_ks hv10) 0 M_32 _ _ _ hw hP hS (lv_sub hl [3, 4, 5, 2, 1, 0] rfl)
-- ===== X1_causeOf
def wjX1_causeOf_18 (p1 : Int32) (p2 : Int32) (Q : Int32 → pt_M → Prop)  (xs0 : Int32) (M : pt_M) : Prop :=
  Q xs0 M
def wpX1_causeOf (p1 : Int32) (p2 : Int32) (M : pt_M) (Q : Int32 → pt_M → Prop) : Prop :=
  (¬ p1 = 0 → (¬ p1 = 1 → wjX1_causeOf_18 p1 p2 Q 11 M) ∧ (p1 = 1 → wjX1_causeOf_18 p1 p2 Q 10 M)) ∧ (p1 = 0 → Q p2 M)
set_option maxHeartbeats 4000000 in
set_option maxRecDepth 100000 in
theorem mtX1_causeOf (l : Launch) (D : va_G) (cA : Nat → ClassId) (ad : Nat → Nat) (hI : pt_I ad) (sz : Nat) (p1 : Int32) (p2 : Int32) (M : pt_M) (Q : Int32 → pt_M → Prop) (hw : wpX1_causeOf p1 p2 M Q) : Met l yX1_causeOf (Cond.code yX1_causeOf cX1_causeOf 2 (some .int) :: lw_all) ({ frames := 0, cells := 0, slots := 0, locals := 0 } : Room) (va_Pc [.int p1, .int p2] (pt_P D cA ad sz M)) (va_Qi Q (pt_B D cA ad) (pt_fr ad sz)) 0 0 (pt_fr ad sz) := by
  refine Met.ofW (cc := cX1_causeOf) (maxL := 2) (ret := (some .int)) (by decide) rfl ?_
  intro p e s m args below meth c s₁ B hml hv
  obtain ⟨rfl, hsz, hP, hK⟩ := hv
  have hx := B.exec
  have hb := B.bytes
  have hr := B.returns
  have hts0 := atoms_spec (ws := (Cond.code yX1_causeOf cX1_causeOf 2 (some .int) :: lw_all)) B.pre
  have hown : s.vm.findClass RX1 = some m.cls := findClass_of_methodNamed B.named
  have hlocks := B.notSynchronized
  subst hsz
  have F : pt_F p m c cX1_causeOf 2 s _ RX1 D cA := ⟨⟨hx, hb, hml, hown, fun w h => hts0 w (List.mem_cons_of_mem _ h)⟩, hK⟩
  have hD : ∀ M, va_D (pt_fr ad s.heap.size) (pt_W cA ad M) := pt_D hI (fun k h => Or.inl ⟨k, h, rfl⟩)
  have hS : va_S (pt_fr ad s.heap.size) s.heap s.heap [] := va_S.rf
  have hl := lv_entry ([.int p1, .int p2]) (n := 2) (Nat.le_of_ble_eq_true rfl)
  rw [lg_entry_eq]
  generalize (lg_sl ([.int p1, .int p2]) ++ List.replicate (2 - (lg_sl ([.int p1, .int p2])).length) Slot.unset).toArray = ls at hl ⊢
  have hl : lv_has ls 2 [(0, .int p1), (1, .int p2)] := hl
  have J18 : ∀ (xs0 : Int32) (M : pt_M) (H : Heap) (locs : List Loc) (ls : Array Slot), wjX1_causeOf_18 p1 p2 Q xs0 M → va_P D pt_cl (pt_W cA ad M) H → va_S (pt_fr ad s.heap.size) s.heap H locs → lv_has ls 2 [] → W p l e (headSpec (Cond.code yX1_causeOf cX1_causeOf 2 (some .int) :: lw_all) ({ frames := 0, cells := 0, slots := 0, locals := 0 } : Room)).room s m ([.int p1, .int p2] : List Value).toArray below meth c H locs 0 0 (MQ below (va_Qi Q (pt_B D cA ad) (pt_fr ad s.heap.size)) ([.int p1, .int p2] : List Value).toArray s 0 0 (pt_fr ad s.heap.size)) (F0 m 18 ls [.int xs0]) := by
    intro xs0 M H locs ls hw hP hS hl
    unfold wjX1_causeOf_18 at hw
    exact W.iret (v := xs0) hx hb hr (fun t ht hW => ⟨⟨xs0, M, rfl, hw, by unfold pt_B; rw [ht]; exact hP⟩, hS.F ht⟩) hS.2.2 dX1_causeOf_18
  unfold wpX1_causeOf at hw
  refine lv_iload_n hx hb dX1_causeOf_0 rfl (lv_at hl 0 rfl) ?_
  refine lv_if_ne (tgt := 6) hx hb dX1_causeOf_1 (by decide) (fun hc1 => ?_) (fun hc1 => ?_)
  · replace hw := hw.1 hc1
    refine lv_iload_n hx hb dX1_causeOf_6 rfl (lv_at hl 0 rfl) ?_
    refine lv_iconst (v := 1) hx hb dX1_causeOf_7 (by decide) ?_
    refine lv_icmp_ne (tgt := 16) hx hb dX1_causeOf_8 (by decide) (fun hc8 => ?_) (fun hc8 => ?_)
    · replace hw := hw.1 hc8
      refine lv_bipush (v := 11) hx hb dX1_causeOf_16 (by decide) ?_
      exact J18 11 M _ _ _ hw hP hS (lv_sub hl [] rfl)
    · replace hw := hw.2 hc8
      refine lv_bipush (v := 10) hx hb dX1_causeOf_11 (by decide) ?_
      refine lv_goto (tgt := 18) hx hb dX1_causeOf_13 (by decide) ?_
      exact J18 10 M _ _ _ hw hP hS (lv_sub hl [] rfl)
  · replace hw := hw.2 hc1
    refine lv_iload_n hx hb dX1_causeOf_4 rfl (lv_at hl 1 rfl) ?_
    exact W.iret (v := p2) hx hb hr (fun t ht hW => ⟨⟨p2, M, rfl, hw, by unfold pt_B; rw [ht]; exact hP⟩, hS.F ht⟩) hS.2.2 dX1_causeOf_5
end
section
-- ===== X1_scopeOf
def wjX1_scopeOf_52 (p1 : Int32) (p2 : Int32) (Q : Int32 → pt_M → Prop) (R15 : Int32 → Int32 → pt_M → Prop) (x3 : Int32) (x4 : Int32) (M : pt_M) : Prop :=
  ∀ x4_52 : Int32, x4_52 = x4 + (-1) → R15 x3 x4_52 M
def lbX1_scopeOf_15 (p1 : Int32) (p2 : Int32) (Q : Int32 → pt_M → Prop)  (R15 : Int32 → Int32 → pt_M → Prop) (x3 : Int32) (x4 : Int32) (M : pt_M) : Prop :=
  (x4 ≤ 0 → Q 0 M) ∧ (¬ x4 ≤ 0 → vp_in x4 20 ∧ ((¬ (M (pt_s x4) 2) = 0 → wjX1_scopeOf_52 p1 p2 Q R15 x3 x4 M) ∧ ((M (pt_s x4) 2) = 0 → vp_in x4 20 ∧ ((¬ ((M (pt_s x4) 7) &&& x3) = x3 → wjX1_scopeOf_52 p1 p2 Q R15 x3 x4 M) ∧ (((M (pt_s x4) 7) &&& x3) = x3 → Q x4 M)))))
def lpX1_scopeOf_15 (p1 : Int32) (p2 : Int32) (Q : Int32 → pt_M → Prop)  : Nat → Int32 → Int32 → pt_M → Prop
  | 0 => fun _ _ _ => False
  | n + 1 => fun x3 x4 M => lbX1_scopeOf_15 p1 p2 Q (lpX1_scopeOf_15 p1 p2 Q n) x3 x4 M
def wpX1_scopeOf (p1 : Int32) (p2 : Int32) (M : pt_M) (Q : Int32 → pt_M → Prop) : Prop :=
  wpX7_setOf p1 M (fun (r_1 : Int32) (M_1 : pt_M) => wpX7_setOf p2 M_1 (fun (r_5 : Int32) (M_5 : pt_M) => ∀ x3_9 : Int32, x3_9 = (r_1 ||| r_5) → ∀ x4_13 : Int32, x4_13 = (p1 - 1) → ∃ n : Nat, lpX1_scopeOf_15 p1 p2 Q n x3_9 x4_13 M_5))
set_option maxHeartbeats 4000000 in
set_option maxRecDepth 100000 in
theorem mtX1_scopeOf (l : Launch) (D : va_G) (cA : Nat → ClassId) (ad : Nat → Nat) (hI : pt_I ad) (sz : Nat) (p1 : Int32) (p2 : Int32) (M : pt_M) (Q : Int32 → pt_M → Prop) (hw : wpX1_scopeOf p1 p2 M Q) : Met l yX1_scopeOf (Cond.code yX1_scopeOf cX1_scopeOf 5 (some .int) :: lw_all) ({ frames := 1, cells := 0, slots := 0, locals := 20 } : Room) (va_Pc [.ref (ad 1), .int p1, .int p2] (pt_P D cA ad sz M)) (va_Qi Q (pt_B D cA ad) (pt_fr ad sz)) 0 0 (pt_fr ad sz) := by
  refine Met.ofW (cc := cX1_scopeOf) (maxL := 5) (ret := (some .int)) (by decide) rfl ?_
  intro p e s m args below meth c s₁ B hml hv
  obtain ⟨rfl, hsz, hP, hK⟩ := hv
  have hx := B.exec
  have hb := B.bytes
  have hr := B.returns
  have hts0 := atoms_spec (ws := (Cond.code yX1_scopeOf cX1_scopeOf 5 (some .int) :: lw_all)) B.pre
  have hown : s.vm.findClass RX1 = some m.cls := findClass_of_methodNamed B.named
  have hlocks := B.notSynchronized
  subst hsz
  have F : pt_F p m c cX1_scopeOf 5 s _ RX1 D cA := ⟨⟨hx, hb, hml, hown, fun w h => hts0 w (List.mem_cons_of_mem _ h)⟩, hK⟩
  have hD : ∀ M, va_D (pt_fr ad s.heap.size) (pt_W cA ad M) := pt_D hI (fun k h => Or.inl ⟨k, h, rfl⟩)
  have hS : va_S (pt_fr ad s.heap.size) s.heap s.heap [] := va_S.rf
  have hl := lv_entry ([.ref (ad 1), .int p1, .int p2]) (n := 5) (Nat.le_of_ble_eq_true rfl)
  rw [lg_entry_eq]
  generalize (lg_sl ([.ref (ad 1), .int p1, .int p2]) ++ List.replicate (5 - (lg_sl ([.ref (ad 1), .int p1, .int p2])).length) Slot.unset).toArray = ls at hl ⊢
  have hl : lv_has ls 5 [(0, .ref (ad 1)), (1, .int p1), (2, .int p2)] := hl
  have L15 : ∀ (n15 : Nat) (x3 : Int32) (x4 : Int32) (M : pt_M) (H : Heap) (locs : List Loc) (ls : Array Slot), lpX1_scopeOf_15 p1 p2 Q n15 x3 x4 M → va_P D pt_cl (pt_W cA ad M) H → va_S (pt_fr ad s.heap.size) s.heap H locs → lv_has ls 5 [(0, .ref (ad 1)), (3, .int x3), (4, .int x4)] → W p l e (headSpec (Cond.code yX1_scopeOf cX1_scopeOf 5 (some .int) :: lw_all) ({ frames := 1, cells := 0, slots := 0, locals := 20 } : Room)).room s m ([.ref (ad 1), .int p1, .int p2] : List Value).toArray below meth c H locs 0 0 (MQ below (va_Qi Q (pt_B D cA ad) (pt_fr ad s.heap.size)) ([.ref (ad 1), .int p1, .int p2] : List Value).toArray s 0 0 (pt_fr ad s.heap.size)) (F0 m 15 ls []) := by
    intro n15
    induction n15 with
    | zero => intro x3 x4 M H locs ls hw; exact hw.elim
    | succ n15 ih15 =>
      have J52 : ∀ (x3 : Int32) (x4 : Int32) (M : pt_M) (H : Heap) (locs : List Loc) (ls : Array Slot), wjX1_scopeOf_52 p1 p2 Q (lpX1_scopeOf_15 p1 p2 Q n15) x3 x4 M → va_P D pt_cl (pt_W cA ad M) H → va_S (pt_fr ad s.heap.size) s.heap H locs → lv_has ls 5 [(0, .ref (ad 1)), (3, .int x3), (4, .int x4)] → W p l e (headSpec (Cond.code yX1_scopeOf cX1_scopeOf 5 (some .int) :: lw_all) ({ frames := 1, cells := 0, slots := 0, locals := 20 } : Room)).room s m ([.ref (ad 1), .int p1, .int p2] : List Value).toArray below meth c H locs 0 0 (MQ below (va_Qi Q (pt_B D cA ad) (pt_fr ad s.heap.size)) ([.ref (ad 1), .int p1, .int p2] : List Value).toArray s 0 0 (pt_fr ad s.heap.size)) (F0 m 52 ls []) := by
        intro x3 x4 M H locs ls hw hP hS hl
        unfold wjX1_scopeOf_52 at hw
        obtain ⟨x4_52, ex4_52⟩ : ∃ y : Int32, y = x4 + (-1) := ⟨_, rfl⟩
        replace hw := hw x4_52 ex4_52
        refine lv_iinc (v := x4_52) (lv' := [(4, .int x4_52), (0, .ref (ad 1)), (3, .int x3)]) hx hb dX1_scopeOf_52 hl (k := 2) rfl (by rw [ex4_52]; rfl) (by decide) rfl (fun ls hl => ?_)
        refine lv_goto (tgt := 15) hx hb dX1_scopeOf_55 (by decide) ?_
        exact ih15 x3 x4_52 M _ _ _ hw hP hS (lv_sub hl [1, 2, 0] rfl)
      intro x3 x4 M H locs ls hw hP hS hl
      replace hw : lbX1_scopeOf_15 p1 p2 Q (lpX1_scopeOf_15 p1 p2 Q n15) x3 x4 M := hw
      unfold lbX1_scopeOf_15 at hw
      refine lv_iload hx hb dX1_scopeOf_15 (lv_at hl 2 rfl) ?_
      refine lv_if_le (tgt := 58) hx hb dX1_scopeOf_17 (by decide) (fun hc17 => ?_) (fun hc17 => ?_)
      · replace hw := hw.1 hc17
        refine lv_iconst (v := 0) hx hb dX1_scopeOf_58 (by decide) ?_
        exact W.iret (v := 0) hx hb hr (fun t ht hW => ⟨⟨0, M, rfl, hw, by unfold pt_B; rw [ht]; exact hP⟩, hS.F ht⟩) hS.2.2 dX1_scopeOf_59
      · replace hw := hw.2 hc17
        refine lv_aload_n hx hb dX1_scopeOf_20 rfl (lv_at hl 0 rfl) ?_
        refine pt_get F hP (pt_c1 _ pt_k1) (pt_l1 pt_k1) inX1 rfl 0 (by decide) kw_222 rfl rfl dX1_scopeOf_21 ?_
        refine lv_iload hx hb dX1_scopeOf_24 (lv_at hl 2 rfl) ?_
        have hv26 := hw.1
        replace hw := hw.2
        refine pt_alds F hP hv26 dX1_scopeOf_26 ?_
        refine pt_get F hP (pt_c5 _ (pt_ks hv26)) (pt_l5 (pt_ks hv26)) inX5 rfl 2 (by decide) kw_136 rfl rfl dX1_scopeOf_27 ?_
        refine lv_if_ne (tgt := 52) hx hb dX1_scopeOf_30 (by decide) (fun hc30 => ?_) (fun hc30 => ?_)
        · replace hw := hw.1 hc30
          exact J52 x3 x4 M _ _ _ hw hP hS (lv_sub hl [0, 1, 2] rfl)
        · replace hw := hw.2 hc30
          refine lv_aload_n hx hb dX1_scopeOf_33 rfl (lv_at hl 0 rfl) ?_
          refine pt_get F hP (pt_c1 _ pt_k1) (pt_l1 pt_k1) inX1 rfl 0 (by decide) kw_222 rfl rfl dX1_scopeOf_34 ?_
          refine lv_iload hx hb dX1_scopeOf_37 (lv_at hl 2 rfl) ?_
          have hv39 := hw.1
          replace hw := hw.2
          refine pt_alds F hP hv39 dX1_scopeOf_39 ?_
          refine pt_get F hP (pt_c5 _ (pt_ks hv39)) (pt_l5 (pt_ks hv39)) inX5 rfl 7 (by decide) kw_152 rfl rfl dX1_scopeOf_40 ?_
          refine lv_iload_n hx hb dX1_scopeOf_43 rfl (lv_at hl 1 rfl) ?_
          refine lv_iand hx hb dX1_scopeOf_44 ?_
          refine lv_iload_n hx hb dX1_scopeOf_45 rfl (lv_at hl 1 rfl) ?_
          refine lv_icmp_ne (tgt := 52) hx hb dX1_scopeOf_46 (by decide) (fun hc46 => ?_) (fun hc46 => ?_)
          · replace hw := hw.1 hc46
            exact J52 x3 x4 M _ _ _ hw hP hS (lv_sub hl [0, 1, 2] rfl)
          · replace hw := hw.2 hc46
            refine lv_iload hx hb dX1_scopeOf_49 (lv_at hl 2 rfl) ?_
            exact W.iret (v := x4) hx hb hr (fun t ht hW => ⟨⟨x4, M, rfl, hw, by unfold pt_B; rw [ht]; exact hP⟩, hS.F ht⟩) hS.2.2 dX1_scopeOf_51
  unfold wpX1_scopeOf at hw
  refine lv_iload_n hx hb dX1_scopeOf_0 rfl (lv_at hl 1 rfl) ?_
  refine pt_calli (pt_runSN (n := 1) (As := [.int p1]) (rest := []) F hP (mtX7_setOf l D cA ad hI _ p1 M _ hw) kw_103 kw_101 kw_52 kw_102 ⟨by decide, by decide, by decide +kernel⟩ ⟨rfl, rfl, Nat.le_of_ble_eq_true rfl, Nat.le_of_ble_eq_true rfl⟩ rfl hl.1 rfl (Nat.le_of_ble_eq_true rfl) dX1_scopeOf_1 ⟨Nat.zero_le _, Nat.zero_le _⟩) hS (fun _ h => h) (fun r_1 M_1 H locs hw hP hS _ _ => ?_)
  refine lv_iload_n hx hb dX1_scopeOf_4 rfl (lv_at hl 2 rfl) ?_
  refine pt_calli (pt_runSN (n := 1) (As := [.int p2]) (rest := [.int r_1]) F hP (mtX7_setOf l D cA ad hI _ p2 M_1 _ hw) kw_103 kw_101 kw_52 kw_102 ⟨by decide, by decide, by decide +kernel⟩ ⟨rfl, rfl, Nat.le_of_ble_eq_true rfl, Nat.le_of_ble_eq_true rfl⟩ rfl hl.1 rfl (Nat.le_of_ble_eq_true rfl) dX1_scopeOf_5 ⟨Nat.zero_le _, Nat.zero_le _⟩) hS (fun _ h => h) (fun r_5 M_5 H locs hw hP hS _ _ => ?_)
  refine lv_ior hx hb dX1_scopeOf_8 ?_
  refine lv_topi (fun x3_9 ex3_9 => ?_)
  replace hw := hw x3_9 ex3_9
  refine lv_istore_n (lv' := [(3, .int x3_9), (0, .ref (ad 1)), (1, .int p1), (2, .int p2)]) hx hb dX1_scopeOf_9 rfl hl (by decide) rfl (fun ls hl => ?_)
  refine lv_iload_n hx hb dX1_scopeOf_10 rfl (lv_at hl 2 rfl) ?_
  refine lv_iconst (v := 1) hx hb dX1_scopeOf_11 (by decide) ?_
  refine lv_isub hx hb dX1_scopeOf_12 ?_
  refine lv_topi (fun x4_13 ex4_13 => ?_)
  replace hw := hw x4_13 ex4_13
  refine lv_istore (lv' := [(4, .int x4_13), (3, .int x3_9), (0, .ref (ad 1)), (1, .int p1), (2, .int p2)]) hx hb dX1_scopeOf_13 hl (by decide) rfl (fun ls hl => ?_)
  obtain ⟨n_, hw⟩ := hw
  exact L15 n_ x3_9 x4_13 M_5 _ _ _ hw hP hS (lv_sub hl [2, 1, 0] rfl)
-- ===== X1_putTransition
def wjX1_putTransition_59 (p1 : Int32) (p2 : Int32) (p3 : Int32) (p4 : Int32) (Q : Int32 → pt_M → Prop)  (x5 : Int32) (qs0 : Nat) (xs1 : Int32) (M : pt_M) : Prop :=
  ∀ M_59 : pt_M, M_59 = pt_st M qs0 5 xs1 → vp_in p1 20 ∧ (wpX7_setOf x5 M_59 (fun (r_74 : Int32) (M_74 : pt_M) => ∀ M_78 : pt_M, M_78 = pt_st M_74 (pt_s p1) 8 ((M_59 (pt_s p1) 8) ||| r_74) → wpX1_causeOf p2 p3 M_78 (fun (r_87 : Int32) (M_87 : pt_M) => vp_in r_87 12 ∧ (wpX7_setOf x5 M_87 (fun (r_94 : Int32) (M_94 : pt_M) => vp_in r_87 12 ∧ ∀ M_98 : pt_M, M_98 = pt_st M_94 4 (Int32.toNatClampNeg r_87) ((M_87 4 (Int32.toNatClampNeg r_87)) ||| r_94) → ∀ M_106 : pt_M, M_106 = pt_st M_98 1 4 ((M_98 1 4) + 1) → Q x5 M_106)))))
def wpX1_putTransition (p1 : Int32) (p2 : Int32) (p3 : Int32) (p4 : Int32) (M : pt_M) (Q : Int32 → pt_M → Prop) : Prop :=
  ∀ x5_4 : Int32, x5_4 = (M 1 4) → vp_in x5_4 30 ∧ (∀ M_18 : pt_M, M_18 = pt_st M (pt_t x5_4) 1 p1 → ∀ M_24 : pt_M, M_24 = pt_st M_18 (pt_t x5_4) 2 p2 → ∀ M_30 : pt_M, M_30 = pt_st M_24 (pt_t x5_4) 3 p3 → ∀ M_37 : pt_M, M_37 = pt_st M_30 (pt_t x5_4) 4 p4 → (¬ p4 = (-1) → wpX1_scopeOf p1 p4 M_37 (fun (r_56 : Int32) (M_56 : pt_M) => wjX1_putTransition_59 p1 p2 p3 p4 Q x5_4 (pt_t x5_4) r_56 M_56)) ∧ (p4 = (-1) → wjX1_putTransition_59 p1 p2 p3 p4 Q x5_4 (pt_t x5_4) (-1) M_37))
set_option maxHeartbeats 4000000 in
set_option maxRecDepth 100000 in
theorem mtX1_putTransition (l : Launch) (D : va_G) (cA : Nat → ClassId) (ad : Nat → Nat) (hI : pt_I ad) (sz : Nat) (p1 : Int32) (p2 : Int32) (p3 : Int32) (p4 : Int32) (M : pt_M) (Q : Int32 → pt_M → Prop) (hw : wpX1_putTransition p1 p2 p3 p4 M Q) : Met l yX1_putTransition (Cond.code yX1_putTransition cX1_putTransition 7 (some .int) :: lw_all) ({ frames := 2, cells := 0, slots := 0, locals := 44 } : Room) (va_Pc [.ref (ad 1), .int p1, .int p2, .int p3, .int p4] (pt_P D cA ad sz M)) (va_Qi Q (pt_B D cA ad) (pt_fr ad sz)) 0 0 (pt_fr ad sz) := by
  refine Met.ofW (cc := cX1_putTransition) (maxL := 7) (ret := (some .int)) (by decide) rfl ?_
  intro p e s m args below meth c s₁ B hml hv
  obtain ⟨rfl, hsz, hP, hK⟩ := hv
  have hx := B.exec
  have hb := B.bytes
  have hr := B.returns
  have hts0 := atoms_spec (ws := (Cond.code yX1_putTransition cX1_putTransition 7 (some .int) :: lw_all)) B.pre
  have hown : s.vm.findClass RX1 = some m.cls := findClass_of_methodNamed B.named
  have hlocks := B.notSynchronized
  subst hsz
  have F : pt_F p m c cX1_putTransition 7 s _ RX1 D cA := ⟨⟨hx, hb, hml, hown, fun w h => hts0 w (List.mem_cons_of_mem _ h)⟩, hK⟩
  have hD : ∀ M, va_D (pt_fr ad s.heap.size) (pt_W cA ad M) := pt_D hI (fun k h => Or.inl ⟨k, h, rfl⟩)
  have hS : va_S (pt_fr ad s.heap.size) s.heap s.heap [] := va_S.rf
  have hl := lv_entry ([.ref (ad 1), .int p1, .int p2, .int p3, .int p4]) (n := 7) (Nat.le_of_ble_eq_true rfl)
  rw [lg_entry_eq]
  generalize (lg_sl ([.ref (ad 1), .int p1, .int p2, .int p3, .int p4]) ++ List.replicate (7 - (lg_sl ([.ref (ad 1), .int p1, .int p2, .int p3, .int p4])).length) Slot.unset).toArray = ls at hl ⊢
  have hl : lv_has ls 7 [(0, .ref (ad 1)), (1, .int p1), (2, .int p2), (3, .int p3), (4, .int p4)] := hl
  have J59 : ∀ (x5 : Int32) (qs0 : Nat) (hqs0 : pt_kd qs0 = 6) (xs1 : Int32) (M : pt_M) (H : Heap) (locs : List Loc) (ls : Array Slot), wjX1_putTransition_59 p1 p2 p3 p4 Q x5 qs0 xs1 M → va_P D pt_cl (pt_W cA ad M) H → va_S (pt_fr ad s.heap.size) s.heap H locs → lv_has ls 7 [(0, .ref (ad 1)), (1, .int p1), (2, .int p2), (3, .int p3), (5, .int x5)] → W p l e (headSpec (Cond.code yX1_putTransition cX1_putTransition 7 (some .int) :: lw_all) ({ frames := 2, cells := 0, slots := 0, locals := 44 } : Room)).room s m ([.ref (ad 1), .int p1, .int p2, .int p3, .int p4] : List Value).toArray below meth c H locs 0 0 (MQ below (va_Qi Q (pt_B D cA ad) (pt_fr ad s.heap.size)) ([.ref (ad 1), .int p1, .int p2, .int p3, .int p4] : List Value).toArray s 0 0 (pt_fr ad s.heap.size)) (F0 m 59 ls [.int xs1, .ref (ad qs0)]) := by
    intro x5 qs0 hqs0 xs1 M H locs ls hw hP hS hl
    unfold wjX1_putTransition_59 at hw
    refine pt_put F hP hD hS (pt_c6 _ hqs0) (pt_l6 hqs0) inX6 tyX6 tyX6_ok nmX6 rfl 5 (by decide) kw_195 rfl rfl rfl rfl (Nat.le_of_ble_eq_true rfl) (pt_c6 _ hqs0) dX1_putTransition_59 (fun M_59 H locs eM_59 hP hS => ?_)
    replace hw := hw M_59 eM_59
    refine lv_aload_n hx hb dX1_putTransition_62 rfl (lv_at hl 0 rfl) ?_
    refine pt_get F hP (pt_c1 _ pt_k1) (pt_l1 pt_k1) inX1 rfl 0 (by decide) kw_222 rfl rfl dX1_putTransition_63 ?_
    refine lv_iload_n hx hb dX1_putTransition_66 rfl (lv_at hl 1 rfl) ?_
    have hv67 := hw.1
    replace hw := hw.2
    refine pt_alds F hP hv67 dX1_putTransition_67 ?_
    refine lv_dup hx hb dX1_putTransition_68 rfl ?_
    refine pt_get F hP (pt_c5 _ (pt_ks hv67)) (pt_l5 (pt_ks hv67)) inX5 rfl 8 (by decide) kw_154 rfl rfl dX1_putTransition_69 ?_
    refine lv_iload hx hb dX1_putTransition_72 (lv_at hl 4 rfl) ?_
    refine pt_calli (pt_runSN (n := 1) (As := [.int x5]) (rest := [.int (M_59 (pt_s p1) 8), .ref (ad (pt_s p1))]) F hP (mtX7_setOf l D cA ad hI _ x5 M_59 _ hw) kw_103 kw_101 kw_52 kw_102 ⟨by decide, by decide, by decide +kernel⟩ ⟨rfl, rfl, Nat.le_of_ble_eq_true rfl, Nat.le_of_ble_eq_true rfl⟩ rfl hl.1 rfl (Nat.le_of_ble_eq_true rfl) dX1_putTransition_74 ⟨Nat.zero_le _, Nat.zero_le _⟩) hS (fun _ h => h) (fun r_74 M_74 H locs hw hP hS _ _ => ?_)
    refine lv_ior hx hb dX1_putTransition_77 ?_
    refine pt_put F hP hD hS (pt_c5 _ (pt_ks hv67)) (pt_l5 (pt_ks hv67)) inX5 tyX5 tyX5_ok nmX5 rfl 8 (by decide) kw_154 rfl rfl rfl rfl (Nat.le_of_ble_eq_true rfl) (pt_c5 _ (pt_ks hv67)) dX1_putTransition_78 (fun M_78 H locs eM_78 hP hS => ?_)
    replace hw := hw M_78 eM_78
    refine lv_aload_n hx hb dX1_putTransition_81 rfl (lv_at hl 0 rfl) ?_
    refine pt_get F hP (pt_c1 _ pt_k1) (pt_l1 pt_k1) inX1 rfl 2 (by decide) kw_228 rfl rfl dX1_putTransition_82 ?_
    refine lv_iload_n hx hb dX1_putTransition_85 rfl (lv_at hl 2 rfl) ?_
    refine lv_iload_n hx hb dX1_putTransition_86 rfl (lv_at hl 3 rfl) ?_
    refine pt_calli (pt_runS (n := 2) (As := [.int p2, .int p3]) (rest := [.ref (ad 4)]) F hP (mtX1_causeOf l D cA ad hI _ p2 p3 M_78 _ hw) kw_678 kw_676 kw_53 kw_677 ⟨by decide, by decide, by decide +kernel⟩ ⟨rfl, rfl, Nat.le_of_ble_eq_true rfl, Nat.le_of_ble_eq_true rfl⟩ rfl hl.1 rfl (Nat.le_of_ble_eq_true rfl) dX1_putTransition_87 ⟨Nat.zero_le _, Nat.zero_le _⟩) hS (fun _ h => h) (fun r_87 M_87 H locs hw hP hS _ _ => ?_)
    refine lv_dup2_11 hx hb dX1_putTransition_90 rfl rfl ?_
    have hv91 := hw.1
    replace hw := hw.2
    refine pt_iald F hP pt_a4 hv91 dX1_putTransition_91 ?_
    refine lv_iload hx hb dX1_putTransition_92 (lv_at hl 4 rfl) ?_
    refine pt_calli (pt_runSN (n := 1) (As := [.int x5]) (rest := [.int (M_87 4 (Int32.toNatClampNeg r_87)), .int r_87, .ref (ad 4)]) F hP (mtX7_setOf l D cA ad hI _ x5 M_87 _ hw) kw_103 kw_101 kw_52 kw_102 ⟨by decide, by decide, by decide +kernel⟩ ⟨rfl, rfl, Nat.le_of_ble_eq_true rfl, Nat.le_of_ble_eq_true rfl⟩ rfl hl.1 rfl (Nat.le_of_ble_eq_true rfl) dX1_putTransition_94 ⟨Nat.zero_le _, Nat.zero_le _⟩) hS (fun _ h => h) (fun r_94 M_94 H locs hw hP hS _ _ => ?_)
    refine lv_ior hx hb dX1_putTransition_97 ?_
    have hv98 := hw.1
    replace hw := hw.2
    refine pt_iast F hP hD hS pt_a4 hv98 dX1_putTransition_98 (fun M_98 H locs eM_98 hP hS => ?_)
    replace hw := hw M_98 eM_98
    refine lv_aload_n hx hb dX1_putTransition_99 rfl (lv_at hl 0 rfl) ?_
    refine lv_dup hx hb dX1_putTransition_100 rfl ?_
    refine pt_get F hP (pt_c1 _ pt_k1) (pt_l1 pt_k1) inX1 rfl 4 (by decide) kw_233 rfl rfl dX1_putTransition_101 ?_
    refine lv_iconst (v := 1) hx hb dX1_putTransition_104 (by decide) ?_
    refine lv_iadd hx hb dX1_putTransition_105 ?_
    refine pt_put F hP hD hS (pt_c1 _ pt_k1) (pt_l1 pt_k1) inX1 tyX1 tyX1_ok nmX1 rfl 4 (by decide) kw_233 rfl rfl rfl rfl (Nat.le_of_ble_eq_true rfl) (pt_c1 _ pt_k1) dX1_putTransition_106 (fun M_106 H locs eM_106 hP hS => ?_)
    replace hw := hw M_106 eM_106
    refine lv_iload hx hb dX1_putTransition_109 (lv_at hl 4 rfl) ?_
    exact W.iret (v := x5) hx hb hr (fun t ht hW => ⟨⟨x5, M_106, rfl, hw, by unfold pt_B; rw [ht]; exact hP⟩, hS.F ht⟩) hS.2.2 dX1_putTransition_111
  unfold wpX1_putTransition at hw
  refine lv_aload_n hx hb dX1_putTransition_0 rfl (lv_at hl 0 rfl) ?_
  refine pt_get F hP (pt_c1 _ pt_k1) (pt_l1 pt_k1) inX1 rfl 4 (by decide) kw_233 rfl rfl dX1_putTransition_1 ?_
  refine lv_topi (fun x5_4 ex5_4 => ?_)
  replace hw := hw x5_4 ex5_4
  refine lv_istore (lv' := [(5, .int x5_4), (0, .ref (ad 1)), (1, .int p1), (2, .int p2), (3, .int p3), (4, .int p4)]) hx hb dX1_putTransition_4 hl (by decide) rfl (fun ls hl => ?_)
  refine lv_aload_n hx hb dX1_putTransition_6 rfl (lv_at hl 1 rfl) ?_
  refine pt_get F hP (pt_c1 _ pt_k1) (pt_l1 pt_k1) inX1 rfl 1 (by decide) kw_225 rfl rfl dX1_putTransition_7 ?_
  refine lv_iload hx hb dX1_putTransition_10 (lv_at hl 0 rfl) ?_
  have hv12 := hw.1
  replace hw := hw.2
  refine pt_aldt F hP hv12 dX1_putTransition_12 ?_
  refine lv_astore (lv' := [(6, .ref (ad (pt_t x5_4))), (5, .int x5_4), (0, .ref (ad 1)), (1, .int p1), (2, .int p2), (3, .int p3), (4, .int p4)]) hx hb dX1_putTransition_13 hl (by decide) rfl (fun ls hl => ?_)
  refine lv_aload hx hb dX1_putTransition_15 (lv_at hl 0 rfl) ?_
  refine lv_iload_n hx hb dX1_putTransition_17 rfl (lv_at hl 3 rfl) ?_
  refine pt_put F hP hD hS (pt_c6 _ (pt_kt hv12)) (pt_l6 (pt_kt hv12)) inX6 tyX6 tyX6_ok nmX6 rfl 1 (by decide) kw_185 rfl rfl rfl rfl (Nat.le_of_ble_eq_true rfl) (pt_c6 _ (pt_kt hv12)) dX1_putTransition_18 (fun M_18 H locs eM_18 hP hS => ?_)
  replace hw := hw M_18 eM_18
  refine lv_aload hx hb dX1_putTransition_21 (lv_at hl 0 rfl) ?_
  refine lv_iload_n hx hb dX1_putTransition_23 rfl (lv_at hl 4 rfl) ?_
  refine pt_put F hP hD hS (pt_c6 _ (pt_kt hv12)) (pt_l6 (pt_kt hv12)) inX6 tyX6 tyX6_ok nmX6 rfl 2 (by decide) kw_187 rfl rfl rfl rfl (Nat.le_of_ble_eq_true rfl) (pt_c6 _ (pt_kt hv12)) dX1_putTransition_24 (fun M_24 H locs eM_24 hP hS => ?_)
  replace hw := hw M_24 eM_24
  refine lv_aload hx hb dX1_putTransition_27 (lv_at hl 0 rfl) ?_
  refine lv_iload_n hx hb dX1_putTransition_29 rfl (lv_at hl 5 rfl) ?_
  refine pt_put F hP hD hS (pt_c6 _ (pt_kt hv12)) (pt_l6 (pt_kt hv12)) inX6 tyX6 tyX6_ok nmX6 rfl 3 (by decide) kw_189 rfl rfl rfl rfl (Nat.le_of_ble_eq_true rfl) (pt_c6 _ (pt_kt hv12)) dX1_putTransition_30 (fun M_30 H locs eM_30 hP hS => ?_)
  replace hw := hw M_30 eM_30
  refine lv_aload hx hb dX1_putTransition_33 (lv_at hl 0 rfl) ?_
  refine lv_iload hx hb dX1_putTransition_35 (lv_at hl 6 rfl) ?_
  refine pt_put F hP hD hS (pt_c6 _ (pt_kt hv12)) (pt_l6 (pt_kt hv12)) inX6 tyX6 tyX6_ok nmX6 rfl 4 (by decide) kw_192 rfl rfl rfl rfl (Nat.le_of_ble_eq_true rfl) (pt_c6 _ (pt_kt hv12)) dX1_putTransition_37 (fun M_37 H locs eM_37 hP hS => ?_)
  replace hw := hw M_37 eM_37
  refine lv_aload hx hb dX1_putTransition_40 (lv_at hl 0 rfl) ?_
  refine lv_iload hx hb dX1_putTransition_42 (lv_at hl 6 rfl) ?_
  refine lv_iconst (v := (-1)) hx hb dX1_putTransition_44 (by decide) ?_
  refine lv_icmp_ne (tgt := 52) hx hb dX1_putTransition_45 (by decide) (fun hc45 => ?_) (fun hc45 => ?_)
  · replace hw := hw.1 hc45
    refine lv_aload_n hx hb dX1_putTransition_52 rfl (lv_at hl 2 rfl) ?_
    refine lv_iload_n hx hb dX1_putTransition_53 rfl (lv_at hl 3 rfl) ?_
    refine lv_iload hx hb dX1_putTransition_54 (lv_at hl 6 rfl) ?_
    refine pt_calli (pt_runV (n := 2) (As := [.int p1, .int p4]) (rest := [.ref (ad (pt_t x5_4))]) F hP (pt_c1 _ pt_k1) (pt_l1 pt_k1) rfl (mtX1_scopeOf l D cA ad hI _ p1 p4 M_37 _ hw) kw_675 kw_672 kw_53 kw_674 kw_5 ⟨by decide, by decide, by decide +kernel⟩ ⟨rfl, rfl, Nat.le_of_ble_eq_true rfl, Nat.le_of_ble_eq_true rfl⟩ rfl hl.1 rfl (Nat.le_of_ble_eq_true rfl) dX1_putTransition_56 ⟨Nat.zero_le _, Nat.zero_le _⟩) hS (fun _ h => h) (fun r_56 M_56 H locs hw hP hS _ _ => ?_)
    exact J59 x5_4 (pt_t x5_4) (pt_kt hv12) r_56 M_56 _ _ _ hw hP hS (lv_sub hl [2, 3, 4, 5, 1] rfl)
  · replace hw := hw.2 hc45
    refine lv_iconst (v := (-1)) hx hb dX1_putTransition_48 (by decide) ?_
    refine lv_goto (tgt := 59) hx hb dX1_putTransition_49 (by decide) ?_
    exact J59 x5_4 (pt_t x5_4) (pt_kt hv12) (-1) M_37 _ _ _ hw hP hS (lv_sub hl [2, 3, 4, 5, 1] rfl)
-- ===== X1_filled
def wjX1_filled_32 (p1 : Int32) (Q : Int32 → pt_M → Prop) (R4 : Int32 → Int32 → pt_M → Prop) (x2 : Int32) (x3 : Int32) (M : pt_M) : Prop :=
  ∀ x3_32 : Int32, x3_32 = x3 + 1 → R4 x2 x3_32 M
def lbX1_filled_4 (p1 : Int32) (Q : Int32 → pt_M → Prop)  (R4 : Int32 → Int32 → pt_M → Prop) (x2 : Int32) (x3 : Int32) (M : pt_M) : Prop :=
  ((M 1 3) ≤ x3 → Q x2 M) ∧ (¬ (M 1 3) ≤ x3 → wpX7_has x2 x3 M (fun (r_14 : Int32) (M_14 : pt_M) => (r_14 = 0 → wjX1_filled_32 p1 Q R4 x2 x3 M_14) ∧ (¬ r_14 = 0 → vp_in x3 20 ∧ (∀ x2_31 : Int32, x2_31 = (x2 ||| (M_14 (pt_s x3) 6)) → wjX1_filled_32 p1 Q R4 x2_31 x3 M_14))))
def lpX1_filled_4 (p1 : Int32) (Q : Int32 → pt_M → Prop)  : Nat → Int32 → Int32 → pt_M → Prop
  | 0 => fun _ _ _ => False
  | n + 1 => fun x2 x3 M => lbX1_filled_4 p1 Q (lpX1_filled_4 p1 Q n) x2 x3 M
def wpX1_filled (p1 : Int32) (M : pt_M) (Q : Int32 → pt_M → Prop) : Prop :=
  ∃ n : Nat, lpX1_filled_4 p1 Q n p1 0 M
set_option maxHeartbeats 4000000 in
set_option maxRecDepth 100000 in
theorem mtX1_filled (l : Launch) (D : va_G) (cA : Nat → ClassId) (ad : Nat → Nat) (hI : pt_I ad) (sz : Nat) (p1 : Int32) (M : pt_M) (Q : Int32 → pt_M → Prop) (hw : wpX1_filled p1 M Q) : Met l yX1_filled (Cond.code yX1_filled cX1_filled 4 (some .int) :: lw_all) ({ frames := 1, cells := 0, slots := 0, locals := 21 } : Room) (va_Pc [.ref (ad 1), .int p1] (pt_P D cA ad sz M)) (va_Qi Q (pt_B D cA ad) (pt_fr ad sz)) 0 0 (pt_fr ad sz) := by
  refine Met.ofW (cc := cX1_filled) (maxL := 4) (ret := (some .int)) (by decide) rfl ?_
  intro p e s m args below meth c s₁ B hml hv
  obtain ⟨rfl, hsz, hP, hK⟩ := hv
  have hx := B.exec
  have hb := B.bytes
  have hr := B.returns
  have hts0 := atoms_spec (ws := (Cond.code yX1_filled cX1_filled 4 (some .int) :: lw_all)) B.pre
  have hown : s.vm.findClass RX1 = some m.cls := findClass_of_methodNamed B.named
  have hlocks := B.notSynchronized
  subst hsz
  have F : pt_F p m c cX1_filled 4 s _ RX1 D cA := ⟨⟨hx, hb, hml, hown, fun w h => hts0 w (List.mem_cons_of_mem _ h)⟩, hK⟩
  have hD : ∀ M, va_D (pt_fr ad s.heap.size) (pt_W cA ad M) := pt_D hI (fun k h => Or.inl ⟨k, h, rfl⟩)
  have hS : va_S (pt_fr ad s.heap.size) s.heap s.heap [] := va_S.rf
  have hl := lv_entry ([.ref (ad 1), .int p1]) (n := 4) (Nat.le_of_ble_eq_true rfl)
  rw [lg_entry_eq]
  generalize (lg_sl ([.ref (ad 1), .int p1]) ++ List.replicate (4 - (lg_sl ([.ref (ad 1), .int p1])).length) Slot.unset).toArray = ls at hl ⊢
  have hl : lv_has ls 4 [(0, .ref (ad 1)), (1, .int p1)] := hl
  have L4 : ∀ (n4 : Nat) (x2 : Int32) (x3 : Int32) (M : pt_M) (H : Heap) (locs : List Loc) (ls : Array Slot), lpX1_filled_4 p1 Q n4 x2 x3 M → va_P D pt_cl (pt_W cA ad M) H → va_S (pt_fr ad s.heap.size) s.heap H locs → lv_has ls 4 [(0, .ref (ad 1)), (2, .int x2), (3, .int x3)] → W p l e (headSpec (Cond.code yX1_filled cX1_filled 4 (some .int) :: lw_all) ({ frames := 1, cells := 0, slots := 0, locals := 21 } : Room)).room s m ([.ref (ad 1), .int p1] : List Value).toArray below meth c H locs 0 0 (MQ below (va_Qi Q (pt_B D cA ad) (pt_fr ad s.heap.size)) ([.ref (ad 1), .int p1] : List Value).toArray s 0 0 (pt_fr ad s.heap.size)) (F0 m 4 ls []) := by
    intro n4
    induction n4 with
    | zero => intro x2 x3 M H locs ls hw; exact hw.elim
    | succ n4 ih4 =>
      have J32 : ∀ (x2 : Int32) (x3 : Int32) (M : pt_M) (H : Heap) (locs : List Loc) (ls : Array Slot), wjX1_filled_32 p1 Q (lpX1_filled_4 p1 Q n4) x2 x3 M → va_P D pt_cl (pt_W cA ad M) H → va_S (pt_fr ad s.heap.size) s.heap H locs → lv_has ls 4 [(0, .ref (ad 1)), (2, .int x2), (3, .int x3)] → W p l e (headSpec (Cond.code yX1_filled cX1_filled 4 (some .int) :: lw_all) ({ frames := 1, cells := 0, slots := 0, locals := 21 } : Room)).room s m ([.ref (ad 1), .int p1] : List Value).toArray below meth c H locs 0 0 (MQ below (va_Qi Q (pt_B D cA ad) (pt_fr ad s.heap.size)) ([.ref (ad 1), .int p1] : List Value).toArray s 0 0 (pt_fr ad s.heap.size)) (F0 m 32 ls []) := by
        intro x2 x3 M H locs ls hw hP hS hl
        unfold wjX1_filled_32 at hw
        obtain ⟨x3_32, ex3_32⟩ : ∃ y : Int32, y = x3 + 1 := ⟨_, rfl⟩
        replace hw := hw x3_32 ex3_32
        refine lv_iinc (v := x3_32) (lv' := [(3, .int x3_32), (0, .ref (ad 1)), (2, .int x2)]) hx hb dX1_filled_32 hl (k := 2) rfl (by rw [ex3_32]; rfl) (by decide) rfl (fun ls hl => ?_)
        refine lv_goto (tgt := 4) hx hb dX1_filled_35 (by decide) ?_
        exact ih4 x2 x3_32 M _ _ _ hw hP hS (lv_sub hl [1, 2, 0] rfl)
      intro x2 x3 M H locs ls hw hP hS hl
      replace hw : lbX1_filled_4 p1 Q (lpX1_filled_4 p1 Q n4) x2 x3 M := hw
      unfold lbX1_filled_4 at hw
      refine lv_iload_n hx hb dX1_filled_4 rfl (lv_at hl 2 rfl) ?_
      refine lv_aload_n hx hb dX1_filled_5 rfl (lv_at hl 0 rfl) ?_
      refine pt_get F hP (pt_c1 _ pt_k1) (pt_l1 pt_k1) inX1 rfl 3 (by decide) kw_230 rfl rfl dX1_filled_6 ?_
      refine lv_icmp_ge (tgt := 38) hx hb dX1_filled_9 (by decide) (fun hc9 => ?_) (fun hc9 => ?_)
      · replace hw := hw.1 hc9
        refine lv_iload_n hx hb dX1_filled_38 rfl (lv_at hl 1 rfl) ?_
        exact W.iret (v := x2) hx hb hr (fun t ht hW => ⟨⟨x2, M, rfl, hw, by unfold pt_B; rw [ht]; exact hP⟩, hS.F ht⟩) hS.2.2 dX1_filled_39
      · replace hw := hw.2 hc9
        refine lv_iload_n hx hb dX1_filled_12 rfl (lv_at hl 1 rfl) ?_
        refine lv_iload_n hx hb dX1_filled_13 rfl (lv_at hl 2 rfl) ?_
        refine pt_calli (pt_runSN (n := 2) (As := [.int x2, .int x3]) (rest := []) F hP (mtX7_has l D cA ad hI _ x2 x3 M _ hw) kw_449 kw_618 kw_52 kw_448 ⟨by decide, by decide, by decide +kernel⟩ ⟨rfl, rfl, Nat.le_of_ble_eq_true rfl, Nat.le_of_ble_eq_true rfl⟩ rfl hl.1 rfl (Nat.le_of_ble_eq_true rfl) dX1_filled_14 ⟨Nat.zero_le _, Nat.zero_le _⟩) hS (fun _ h => h) (fun r_14 M_14 H locs hw hP hS _ _ => ?_)
        refine lv_if_eq (tgt := 32) hx hb dX1_filled_17 (by decide) (fun hc17 => ?_) (fun hc17 => ?_)
        · replace hw := hw.1 hc17
          exact J32 x2 x3 M_14 _ _ _ hw hP hS (lv_sub hl [0, 1, 2] rfl)
        · replace hw := hw.2 hc17
          refine lv_iload_n hx hb dX1_filled_20 rfl (lv_at hl 1 rfl) ?_
          refine lv_aload_n hx hb dX1_filled_21 rfl (lv_at hl 0 rfl) ?_
          refine pt_get F hP (pt_c1 _ pt_k1) (pt_l1 pt_k1) inX1 rfl 0 (by decide) kw_222 rfl rfl dX1_filled_22 ?_
          refine lv_iload_n hx hb dX1_filled_25 rfl (lv_at hl 2 rfl) ?_
          have hv26 := hw.1
          replace hw := hw.2
          refine pt_alds F hP hv26 dX1_filled_26 ?_
          refine pt_get F hP (pt_c5 _ (pt_ks hv26)) (pt_l5 (pt_ks hv26)) inX5 rfl 6 (by decide) kw_150 rfl rfl dX1_filled_27 ?_
          refine lv_ior hx hb dX1_filled_30 ?_
          refine lv_topi (fun x2_31 ex2_31 => ?_)
          replace hw := hw x2_31 ex2_31
          refine lv_istore_n (lv' := [(2, .int x2_31), (0, .ref (ad 1)), (3, .int x3)]) hx hb dX1_filled_31 rfl hl (by decide) rfl (fun ls hl => ?_)
          exact J32 x2_31 x3 M_14 _ _ _ hw hP hS (lv_sub hl [1, 0, 2] rfl)
  unfold wpX1_filled at hw
  refine lv_iload_n hx hb dX1_filled_0 rfl (lv_at hl 1 rfl) ?_
  refine lv_istore_n (lv' := [(2, .int p1), (0, .ref (ad 1)), (1, .int p1)]) hx hb dX1_filled_1 rfl hl (by decide) rfl (fun ls hl => ?_)
  refine lv_iconst (v := 0) hx hb dX1_filled_2 (by decide) ?_
  refine lv_istore_n (lv' := [(3, .int 0), (2, .int p1), (0, .ref (ad 1)), (1, .int p1)]) hx hb dX1_filled_3 rfl hl (by decide) rfl (fun ls hl => ?_)
  obtain ⟨n_, hw⟩ := hw
  exact L4 n_ p1 0 M _ _ _ hw hP hS (lv_sub hl [2, 1, 0] rfl)
-- ===== X1_partsAside
def wjX1_partsAside_53 (p1 : Int32) (p2 : Int32) (Q : Int32 → pt_M → Prop) (R19 : Int32 → Int32 → pt_M → Prop) (x3 : Int32) (x4 : Int32) (M : pt_M) : Prop :=
  ∀ x4_53 : Int32, x4_53 = x4 + 1 → R19 x3 x4_53 M
def lbX1_partsAside_19 (p1 : Int32) (p2 : Int32) (Q : Int32 → pt_M → Prop)  (R19 : Int32 → Int32 → pt_M → Prop) (x3 : Int32) (x4 : Int32) (M : pt_M) : Prop :=
  ((M 1 3) ≤ x4 → Q x3 M) ∧ (¬ (M 1 3) ≤ x4 → vp_in x4 20 ∧ ((((M (pt_s x4) 7) &&& p2) = 0 → wjX1_partsAside_53 p1 p2 Q R19 x3 x4 M) ∧ (¬ ((M (pt_s x4) 7) &&& p2) = 0 → wpX7_setOf x4 M (fun (r_46 : Int32) (M_46 : pt_M) => ∀ x3_52 : Int32, x3_52 = (x3 &&& (r_46 ^^^ (-1))) → wjX1_partsAside_53 p1 p2 Q R19 x3_52 x4 M_46))))
def lpX1_partsAside_19 (p1 : Int32) (p2 : Int32) (Q : Int32 → pt_M → Prop)  : Nat → Int32 → Int32 → pt_M → Prop
  | 0 => fun _ _ _ => False
  | n + 1 => fun x3 x4 M => lbX1_partsAside_19 p1 p2 Q (lpX1_partsAside_19 p1 p2 Q n) x3 x4 M
def wpX1_partsAside (p1 : Int32) (p2 : Int32) (M : pt_M) (Q : Int32 → pt_M → Prop) : Prop :=
  vp_in p1 20 ∧ (∀ x3_13 : Int32, x3_13 = ((M (pt_s p1) 5) &&& (p2 ^^^ (-1))) → ∀ x4_17 : Int32, x4_17 = (p1 + 1) → ∃ n : Nat, lpX1_partsAside_19 p1 p2 Q n x3_13 x4_17 M)
set_option maxHeartbeats 4000000 in
set_option maxRecDepth 100000 in
theorem mtX1_partsAside (l : Launch) (D : va_G) (cA : Nat → ClassId) (ad : Nat → Nat) (hI : pt_I ad) (sz : Nat) (p1 : Int32) (p2 : Int32) (M : pt_M) (Q : Int32 → pt_M → Prop) (hw : wpX1_partsAside p1 p2 M Q) : Met l yX1_partsAside (Cond.code yX1_partsAside cX1_partsAside 5 (some .int) :: lw_all) ({ frames := 1, cells := 0, slots := 0, locals := 20 } : Room) (va_Pc [.ref (ad 1), .int p1, .int p2] (pt_P D cA ad sz M)) (va_Qi Q (pt_B D cA ad) (pt_fr ad sz)) 0 0 (pt_fr ad sz) := by
  refine Met.ofW (cc := cX1_partsAside) (maxL := 5) (ret := (some .int)) (by decide) rfl ?_
  intro p e s m args below meth c s₁ B hml hv
  obtain ⟨rfl, hsz, hP, hK⟩ := hv
  have hx := B.exec
  have hb := B.bytes
  have hr := B.returns
  have hts0 := atoms_spec (ws := (Cond.code yX1_partsAside cX1_partsAside 5 (some .int) :: lw_all)) B.pre
  have hown : s.vm.findClass RX1 = some m.cls := findClass_of_methodNamed B.named
  have hlocks := B.notSynchronized
  subst hsz
  have F : pt_F p m c cX1_partsAside 5 s _ RX1 D cA := ⟨⟨hx, hb, hml, hown, fun w h => hts0 w (List.mem_cons_of_mem _ h)⟩, hK⟩
  have hD : ∀ M, va_D (pt_fr ad s.heap.size) (pt_W cA ad M) := pt_D hI (fun k h => Or.inl ⟨k, h, rfl⟩)
  have hS : va_S (pt_fr ad s.heap.size) s.heap s.heap [] := va_S.rf
  have hl := lv_entry ([.ref (ad 1), .int p1, .int p2]) (n := 5) (Nat.le_of_ble_eq_true rfl)
  rw [lg_entry_eq]
  generalize (lg_sl ([.ref (ad 1), .int p1, .int p2]) ++ List.replicate (5 - (lg_sl ([.ref (ad 1), .int p1, .int p2])).length) Slot.unset).toArray = ls at hl ⊢
  have hl : lv_has ls 5 [(0, .ref (ad 1)), (1, .int p1), (2, .int p2)] := hl
  have L19 : ∀ (n19 : Nat) (x3 : Int32) (x4 : Int32) (M : pt_M) (H : Heap) (locs : List Loc) (ls : Array Slot), lpX1_partsAside_19 p1 p2 Q n19 x3 x4 M → va_P D pt_cl (pt_W cA ad M) H → va_S (pt_fr ad s.heap.size) s.heap H locs → lv_has ls 5 [(0, .ref (ad 1)), (2, .int p2), (3, .int x3), (4, .int x4)] → W p l e (headSpec (Cond.code yX1_partsAside cX1_partsAside 5 (some .int) :: lw_all) ({ frames := 1, cells := 0, slots := 0, locals := 20 } : Room)).room s m ([.ref (ad 1), .int p1, .int p2] : List Value).toArray below meth c H locs 0 0 (MQ below (va_Qi Q (pt_B D cA ad) (pt_fr ad s.heap.size)) ([.ref (ad 1), .int p1, .int p2] : List Value).toArray s 0 0 (pt_fr ad s.heap.size)) (F0 m 19 ls []) := by
    intro n19
    induction n19 with
    | zero => intro x3 x4 M H locs ls hw; exact hw.elim
    | succ n19 ih19 =>
      have J53 : ∀ (x3 : Int32) (x4 : Int32) (M : pt_M) (H : Heap) (locs : List Loc) (ls : Array Slot), wjX1_partsAside_53 p1 p2 Q (lpX1_partsAside_19 p1 p2 Q n19) x3 x4 M → va_P D pt_cl (pt_W cA ad M) H → va_S (pt_fr ad s.heap.size) s.heap H locs → lv_has ls 5 [(0, .ref (ad 1)), (2, .int p2), (3, .int x3), (4, .int x4)] → W p l e (headSpec (Cond.code yX1_partsAside cX1_partsAside 5 (some .int) :: lw_all) ({ frames := 1, cells := 0, slots := 0, locals := 20 } : Room)).room s m ([.ref (ad 1), .int p1, .int p2] : List Value).toArray below meth c H locs 0 0 (MQ below (va_Qi Q (pt_B D cA ad) (pt_fr ad s.heap.size)) ([.ref (ad 1), .int p1, .int p2] : List Value).toArray s 0 0 (pt_fr ad s.heap.size)) (F0 m 53 ls []) := by
        intro x3 x4 M H locs ls hw hP hS hl
        unfold wjX1_partsAside_53 at hw
        obtain ⟨x4_53, ex4_53⟩ : ∃ y : Int32, y = x4 + 1 := ⟨_, rfl⟩
        replace hw := hw x4_53 ex4_53
        refine lv_iinc (v := x4_53) (lv' := [(4, .int x4_53), (0, .ref (ad 1)), (2, .int p2), (3, .int x3)]) hx hb dX1_partsAside_53 hl (k := 3) rfl (by rw [ex4_53]; rfl) (by decide) rfl (fun ls hl => ?_)
        refine lv_goto (tgt := 19) hx hb dX1_partsAside_56 (by decide) ?_
        exact ih19 x3 x4_53 M _ _ _ hw hP hS (lv_sub hl [1, 2, 3, 0] rfl)
      intro x3 x4 M H locs ls hw hP hS hl
      replace hw : lbX1_partsAside_19 p1 p2 Q (lpX1_partsAside_19 p1 p2 Q n19) x3 x4 M := hw
      unfold lbX1_partsAside_19 at hw
      refine lv_iload hx hb dX1_partsAside_19 (lv_at hl 3 rfl) ?_
      refine lv_aload_n hx hb dX1_partsAside_21 rfl (lv_at hl 0 rfl) ?_
      refine pt_get F hP (pt_c1 _ pt_k1) (pt_l1 pt_k1) inX1 rfl 3 (by decide) kw_230 rfl rfl dX1_partsAside_22 ?_
      refine lv_icmp_ge (tgt := 59) hx hb dX1_partsAside_25 (by decide) (fun hc25 => ?_) (fun hc25 => ?_)
      · replace hw := hw.1 hc25
        refine lv_iload_n hx hb dX1_partsAside_59 rfl (lv_at hl 2 rfl) ?_
        exact W.iret (v := x3) hx hb hr (fun t ht hW => ⟨⟨x3, M, rfl, hw, by unfold pt_B; rw [ht]; exact hP⟩, hS.F ht⟩) hS.2.2 dX1_partsAside_60
      · replace hw := hw.2 hc25
        refine lv_aload_n hx hb dX1_partsAside_28 rfl (lv_at hl 0 rfl) ?_
        refine pt_get F hP (pt_c1 _ pt_k1) (pt_l1 pt_k1) inX1 rfl 0 (by decide) kw_222 rfl rfl dX1_partsAside_29 ?_
        refine lv_iload hx hb dX1_partsAside_32 (lv_at hl 3 rfl) ?_
        have hv34 := hw.1
        replace hw := hw.2
        refine pt_alds F hP hv34 dX1_partsAside_34 ?_
        refine pt_get F hP (pt_c5 _ (pt_ks hv34)) (pt_l5 (pt_ks hv34)) inX5 rfl 7 (by decide) kw_152 rfl rfl dX1_partsAside_35 ?_
        refine lv_iload_n hx hb dX1_partsAside_38 rfl (lv_at hl 1 rfl) ?_
        refine lv_iand hx hb dX1_partsAside_39 ?_
        refine lv_if_eq (tgt := 53) hx hb dX1_partsAside_40 (by decide) (fun hc40 => ?_) (fun hc40 => ?_)
        · replace hw := hw.1 hc40
          exact J53 x3 x4 M _ _ _ hw hP hS (lv_sub hl [0, 1, 2, 3] rfl)
        · replace hw := hw.2 hc40
          refine lv_iload_n hx hb dX1_partsAside_43 rfl (lv_at hl 2 rfl) ?_
          refine lv_iload hx hb dX1_partsAside_44 (lv_at hl 3 rfl) ?_
          refine pt_calli (pt_runSN (n := 1) (As := [.int x4]) (rest := [.int x3]) F hP (mtX7_setOf l D cA ad hI _ x4 M _ hw) kw_103 kw_101 kw_52 kw_102 ⟨by decide, by decide, by decide +kernel⟩ ⟨rfl, rfl, Nat.le_of_ble_eq_true rfl, Nat.le_of_ble_eq_true rfl⟩ rfl hl.1 rfl (Nat.le_of_ble_eq_true rfl) dX1_partsAside_46 ⟨Nat.zero_le _, Nat.zero_le _⟩) hS (fun _ h => h) (fun r_46 M_46 H locs hw hP hS _ _ => ?_)
          refine lv_iconst (v := (-1)) hx hb dX1_partsAside_49 (by decide) ?_
          refine lv_ixor hx hb dX1_partsAside_50 ?_
          refine lv_iand hx hb dX1_partsAside_51 ?_
          refine lv_topi (fun x3_52 ex3_52 => ?_)
          replace hw := hw x3_52 ex3_52
          refine lv_istore_n (lv' := [(3, .int x3_52), (0, .ref (ad 1)), (2, .int p2), (4, .int x4)]) hx hb dX1_partsAside_52 rfl hl (by decide) rfl (fun ls hl => ?_)
          exact J53 x3_52 x4 M_46 _ _ _ hw hP hS (lv_sub hl [1, 2, 0, 3] rfl)
  unfold wpX1_partsAside at hw
  refine lv_aload_n hx hb dX1_partsAside_0 rfl (lv_at hl 0 rfl) ?_
  refine pt_get F hP (pt_c1 _ pt_k1) (pt_l1 pt_k1) inX1 rfl 0 (by decide) kw_222 rfl rfl dX1_partsAside_1 ?_
  refine lv_iload_n hx hb dX1_partsAside_4 rfl (lv_at hl 1 rfl) ?_
  have hv5 := hw.1
  replace hw := hw.2
  refine pt_alds F hP hv5 dX1_partsAside_5 ?_
  refine pt_get F hP (pt_c5 _ (pt_ks hv5)) (pt_l5 (pt_ks hv5)) inX5 rfl 5 (by decide) kw_148 rfl rfl dX1_partsAside_6 ?_
  refine lv_iload_n hx hb dX1_partsAside_9 rfl (lv_at hl 2 rfl) ?_
  refine lv_iconst (v := (-1)) hx hb dX1_partsAside_10 (by decide) ?_
  refine lv_ixor hx hb dX1_partsAside_11 ?_
  refine lv_iand hx hb dX1_partsAside_12 ?_
  refine lv_topi (fun x3_13 ex3_13 => ?_)
  replace hw := hw x3_13 ex3_13
  refine lv_istore_n (lv' := [(3, .int x3_13), (0, .ref (ad 1)), (1, .int p1), (2, .int p2)]) hx hb dX1_partsAside_13 rfl hl (by decide) rfl (fun ls hl => ?_)
  refine lv_iload_n hx hb dX1_partsAside_14 rfl (lv_at hl 2 rfl) ?_
  refine lv_iconst (v := 1) hx hb dX1_partsAside_15 (by decide) ?_
  refine lv_iadd hx hb dX1_partsAside_16 ?_
  refine lv_topi (fun x4_17 ex4_17 => ?_)
  replace hw := hw x4_17 ex4_17
  refine lv_istore (lv' := [(4, .int x4_17), (3, .int x3_13), (0, .ref (ad 1)), (1, .int p1), (2, .int p2)]) hx hb dX1_partsAside_17 hl (by decide) rfl (fun ls hl => ?_)
  obtain ⟨n_, hw⟩ := hw
  exact L19 n_ x3_13 x4_17 M _ _ _ hw hP hS (lv_sub hl [2, 4, 1, 0] rfl)
-- ===== X1_enteredInto
def wjX1_enteredInto_85 (p1 : Int32) (p2 : Int32) (Q : Int32 → pt_M → Prop) (R10 : Int32 → Int32 → Int32 → pt_M → Prop) (x3 : Int32) (x4 : Int32) (x5 : Int32) (M : pt_M) : Prop :=
  ∀ x5_85 : Int32, x5_85 = x5 + 1 → R10 x3 x4 x5_85 M
def lbX1_enteredInto_10 (p1 : Int32) (p2 : Int32) (Q : Int32 → pt_M → Prop)  (R10 : Int32 → Int32 → Int32 → pt_M → Prop) (x3 : Int32) (x4 : Int32) (x5 : Int32) (M : pt_M) : Prop :=
  ((M 1 3) ≤ x5 → wpX1_filled x4 M (fun (r_95 : Int32) (M_95 : pt_M) => Q (x3 ||| r_95) M_95)) ∧ (¬ (M 1 3) ≤ x5 → vp_in p2 20 ∧ (wpX7_has (M (pt_s p2) 7) x5 M (fun (r_30 : Int32) (M_30 : pt_M) => (r_30 = 0 → wjX1_enteredInto_85 p1 p2 Q R10 x3 x4 x5 M_30) ∧ (¬ r_30 = 0 → vp_in x5 20 ∧ ((((M_30 (pt_s x5) 7) &&& p1) = 0 → wjX1_enteredInto_85 p1 p2 Q R10 x3 x4 x5 M_30) ∧ (¬ ((M_30 (pt_s x5) 7) &&& p1) = 0 → wpX7_setOf x5 M_30 (fun (r_54 : Int32) (M_54 : pt_M) => ∀ x3_58 : Int32, x3_58 = (x3 ||| r_54) → vp_in x5 20 ∧ ((¬ (M_54 (pt_s x5) 2) = 1 → wjX1_enteredInto_85 p1 p2 Q R10 x3_58 x4 x5 M_54) ∧ ((M_54 (pt_s x5) 2) = 1 → wpX1_partsAside x5 p1 M_54 (fun (r_79 : Int32) (M_79 : pt_M) => ∀ x4_83 : Int32, x4_83 = (x4 ||| r_79) → wjX1_enteredInto_85 p1 p2 Q R10 x3_58 x4_83 x5 M_79))))))))))
def lpX1_enteredInto_10 (p1 : Int32) (p2 : Int32) (Q : Int32 → pt_M → Prop)  : Nat → Int32 → Int32 → Int32 → pt_M → Prop
  | 0 => fun _ _ _ _ => False
  | n + 1 => fun x3 x4 x5 M => lbX1_enteredInto_10 p1 p2 Q (lpX1_enteredInto_10 p1 p2 Q n) x3 x4 x5 M
def wpX1_enteredInto (p1 : Int32) (p2 : Int32) (M : pt_M) (Q : Int32 → pt_M → Prop) : Prop :=
  ∀ x5_8 : Int32, x5_8 = (p2 + 1) → ∃ n : Nat, lpX1_enteredInto_10 p1 p2 Q n 0 p1 x5_8 M
set_option maxHeartbeats 4000000 in
set_option maxRecDepth 100000 in
theorem mtX1_enteredInto (l : Launch) (D : va_G) (cA : Nat → ClassId) (ad : Nat → Nat) (hI : pt_I ad) (sz : Nat) (p1 : Int32) (p2 : Int32) (M : pt_M) (Q : Int32 → pt_M → Prop) (hw : wpX1_enteredInto p1 p2 M Q) : Met l yX1_enteredInto (Cond.code yX1_enteredInto cX1_enteredInto 6 (some .int) :: lw_all) ({ frames := 2, cells := 0, slots := 0, locals := 44 } : Room) (va_Pc [.ref (ad 1), .int p1, .int p2] (pt_P D cA ad sz M)) (va_Qi Q (pt_B D cA ad) (pt_fr ad sz)) 0 0 (pt_fr ad sz) := by
  refine Met.ofW (cc := cX1_enteredInto) (maxL := 6) (ret := (some .int)) (by decide) rfl ?_
  intro p e s m args below meth c s₁ B hml hv
  obtain ⟨rfl, hsz, hP, hK⟩ := hv
  have hx := B.exec
  have hb := B.bytes
  have hr := B.returns
  have hts0 := atoms_spec (ws := (Cond.code yX1_enteredInto cX1_enteredInto 6 (some .int) :: lw_all)) B.pre
  have hown : s.vm.findClass RX1 = some m.cls := findClass_of_methodNamed B.named
  have hlocks := B.notSynchronized
  subst hsz
  have F : pt_F p m c cX1_enteredInto 6 s _ RX1 D cA := ⟨⟨hx, hb, hml, hown, fun w h => hts0 w (List.mem_cons_of_mem _ h)⟩, hK⟩
  have hD : ∀ M, va_D (pt_fr ad s.heap.size) (pt_W cA ad M) := pt_D hI (fun k h => Or.inl ⟨k, h, rfl⟩)
  have hS : va_S (pt_fr ad s.heap.size) s.heap s.heap [] := va_S.rf
  have hl := lv_entry ([.ref (ad 1), .int p1, .int p2]) (n := 6) (Nat.le_of_ble_eq_true rfl)
  rw [lg_entry_eq]
  generalize (lg_sl ([.ref (ad 1), .int p1, .int p2]) ++ List.replicate (6 - (lg_sl ([.ref (ad 1), .int p1, .int p2])).length) Slot.unset).toArray = ls at hl ⊢
  have hl : lv_has ls 6 [(0, .ref (ad 1)), (1, .int p1), (2, .int p2)] := hl
  have L10 : ∀ (n10 : Nat) (x3 : Int32) (x4 : Int32) (x5 : Int32) (M : pt_M) (H : Heap) (locs : List Loc) (ls : Array Slot), lpX1_enteredInto_10 p1 p2 Q n10 x3 x4 x5 M → va_P D pt_cl (pt_W cA ad M) H → va_S (pt_fr ad s.heap.size) s.heap H locs → lv_has ls 6 [(0, .ref (ad 1)), (1, .int p1), (2, .int p2), (3, .int x3), (4, .int x4), (5, .int x5)] → W p l e (headSpec (Cond.code yX1_enteredInto cX1_enteredInto 6 (some .int) :: lw_all) ({ frames := 2, cells := 0, slots := 0, locals := 44 } : Room)).room s m ([.ref (ad 1), .int p1, .int p2] : List Value).toArray below meth c H locs 0 0 (MQ below (va_Qi Q (pt_B D cA ad) (pt_fr ad s.heap.size)) ([.ref (ad 1), .int p1, .int p2] : List Value).toArray s 0 0 (pt_fr ad s.heap.size)) (F0 m 10 ls []) := by
    intro n10
    induction n10 with
    | zero => intro x3 x4 x5 M H locs ls hw; exact hw.elim
    | succ n10 ih10 =>
      have J85 : ∀ (x3 : Int32) (x4 : Int32) (x5 : Int32) (M : pt_M) (H : Heap) (locs : List Loc) (ls : Array Slot), wjX1_enteredInto_85 p1 p2 Q (lpX1_enteredInto_10 p1 p2 Q n10) x3 x4 x5 M → va_P D pt_cl (pt_W cA ad M) H → va_S (pt_fr ad s.heap.size) s.heap H locs → lv_has ls 6 [(0, .ref (ad 1)), (1, .int p1), (2, .int p2), (3, .int x3), (4, .int x4), (5, .int x5)] → W p l e (headSpec (Cond.code yX1_enteredInto cX1_enteredInto 6 (some .int) :: lw_all) ({ frames := 2, cells := 0, slots := 0, locals := 44 } : Room)).room s m ([.ref (ad 1), .int p1, .int p2] : List Value).toArray below meth c H locs 0 0 (MQ below (va_Qi Q (pt_B D cA ad) (pt_fr ad s.heap.size)) ([.ref (ad 1), .int p1, .int p2] : List Value).toArray s 0 0 (pt_fr ad s.heap.size)) (F0 m 85 ls []) := by
        intro x3 x4 x5 M H locs ls hw hP hS hl
        unfold wjX1_enteredInto_85 at hw
        obtain ⟨x5_85, ex5_85⟩ : ∃ y : Int32, y = x5 + 1 := ⟨_, rfl⟩
        replace hw := hw x5_85 ex5_85
        refine lv_iinc (v := x5_85) (lv' := [(5, .int x5_85), (0, .ref (ad 1)), (1, .int p1), (2, .int p2), (3, .int x3), (4, .int x4)]) hx hb dX1_enteredInto_85 hl (k := 5) rfl (by rw [ex5_85]; rfl) (by decide) rfl (fun ls hl => ?_)
        refine lv_goto (tgt := 10) hx hb dX1_enteredInto_88 (by decide) ?_
        exact ih10 x3 x4 x5_85 M _ _ _ hw hP hS (lv_sub hl [1, 2, 3, 4, 5, 0] rfl)
      intro x3 x4 x5 M H locs ls hw hP hS hl
      replace hw : lbX1_enteredInto_10 p1 p2 Q (lpX1_enteredInto_10 p1 p2 Q n10) x3 x4 x5 M := hw
      unfold lbX1_enteredInto_10 at hw
      refine lv_iload hx hb dX1_enteredInto_10 (lv_at hl 5 rfl) ?_
      refine lv_aload_n hx hb dX1_enteredInto_12 rfl (lv_at hl 0 rfl) ?_
      refine pt_get F hP (pt_c1 _ pt_k1) (pt_l1 pt_k1) inX1 rfl 3 (by decide) kw_230 rfl rfl dX1_enteredInto_13 ?_
      refine lv_icmp_ge (tgt := 91) hx hb dX1_enteredInto_16 (by decide) (fun hc16 => ?_) (fun hc16 => ?_)
      · replace hw := hw.1 hc16
        refine lv_iload_n hx hb dX1_enteredInto_91 rfl (lv_at hl 3 rfl) ?_
        refine lv_aload_n hx hb dX1_enteredInto_92 rfl (lv_at hl 0 rfl) ?_
        refine lv_iload hx hb dX1_enteredInto_93 (lv_at hl 4 rfl) ?_
        refine pt_calli (pt_runV (n := 1) (As := [.int x4]) (rest := [.int x3]) F hP (pt_c1 _ pt_k1) (pt_l1 pt_k1) rfl (mtX1_filled l D cA ad hI _ x4 M _ hw) kw_719 kw_815 kw_53 kw_717 kw_718 ⟨by decide, by decide, by decide +kernel⟩ ⟨rfl, rfl, Nat.le_of_ble_eq_true rfl, Nat.le_of_ble_eq_true rfl⟩ rfl hl.1 rfl (Nat.le_of_ble_eq_true rfl) dX1_enteredInto_95 ⟨Nat.zero_le _, Nat.zero_le _⟩) hS (fun _ h => h) (fun r_95 M_95 H locs hw hP hS _ _ => ?_)
        refine lv_ior hx hb dX1_enteredInto_98 ?_
        exact W.iret (v := (x3 ||| r_95)) hx hb hr (fun t ht hW => ⟨⟨(x3 ||| r_95), M_95, rfl, hw, by unfold pt_B; rw [ht]; exact hP⟩, hS.F ht⟩) hS.2.2 dX1_enteredInto_99
      · replace hw := hw.2 hc16
        refine lv_aload_n hx hb dX1_enteredInto_19 rfl (lv_at hl 0 rfl) ?_
        refine pt_get F hP (pt_c1 _ pt_k1) (pt_l1 pt_k1) inX1 rfl 0 (by decide) kw_222 rfl rfl dX1_enteredInto_20 ?_
        refine lv_iload_n hx hb dX1_enteredInto_23 rfl (lv_at hl 2 rfl) ?_
        have hv24 := hw.1
        replace hw := hw.2
        refine pt_alds F hP hv24 dX1_enteredInto_24 ?_
        refine pt_get F hP (pt_c5 _ (pt_ks hv24)) (pt_l5 (pt_ks hv24)) inX5 rfl 7 (by decide) kw_152 rfl rfl dX1_enteredInto_25 ?_
        refine lv_iload hx hb dX1_enteredInto_28 (lv_at hl 5 rfl) ?_
        refine pt_calli (pt_runSN (n := 2) (As := [.int (M (pt_s p2) 7), .int x5]) (rest := []) F hP (mtX7_has l D cA ad hI _ (M (pt_s p2) 7) x5 M _ hw) kw_449 kw_618 kw_52 kw_448 ⟨by decide, by decide, by decide +kernel⟩ ⟨rfl, rfl, Nat.le_of_ble_eq_true rfl, Nat.le_of_ble_eq_true rfl⟩ rfl hl.1 rfl (Nat.le_of_ble_eq_true rfl) dX1_enteredInto_30 ⟨Nat.zero_le _, Nat.zero_le _⟩) hS (fun _ h => h) (fun r_30 M_30 H locs hw hP hS _ _ => ?_)
        refine lv_if_eq (tgt := 85) hx hb dX1_enteredInto_33 (by decide) (fun hc33 => ?_) (fun hc33 => ?_)
        · replace hw := hw.1 hc33
          exact J85 x3 x4 x5 M_30 _ _ _ hw hP hS (lv_sub hl [0, 1, 2, 3, 4, 5] rfl)
        · replace hw := hw.2 hc33
          refine lv_aload_n hx hb dX1_enteredInto_36 rfl (lv_at hl 0 rfl) ?_
          refine pt_get F hP (pt_c1 _ pt_k1) (pt_l1 pt_k1) inX1 rfl 0 (by decide) kw_222 rfl rfl dX1_enteredInto_37 ?_
          refine lv_iload hx hb dX1_enteredInto_40 (lv_at hl 5 rfl) ?_
          have hv42 := hw.1
          replace hw := hw.2
          refine pt_alds F hP hv42 dX1_enteredInto_42 ?_
          refine pt_get F hP (pt_c5 _ (pt_ks hv42)) (pt_l5 (pt_ks hv42)) inX5 rfl 7 (by decide) kw_152 rfl rfl dX1_enteredInto_43 ?_
          refine lv_iload_n hx hb dX1_enteredInto_46 rfl (lv_at hl 1 rfl) ?_
          refine lv_iand hx hb dX1_enteredInto_47 ?_
          refine lv_if_eq (tgt := 85) hx hb dX1_enteredInto_48 (by decide) (fun hc48 => ?_) (fun hc48 => ?_)
          · replace hw := hw.1 hc48
            exact J85 x3 x4 x5 M_30 _ _ _ hw hP hS (lv_sub hl [0, 1, 2, 3, 4, 5] rfl)
          · replace hw := hw.2 hc48
            refine lv_iload_n hx hb dX1_enteredInto_51 rfl (lv_at hl 3 rfl) ?_
            refine lv_iload hx hb dX1_enteredInto_52 (lv_at hl 5 rfl) ?_
            refine pt_calli (pt_runSN (n := 1) (As := [.int x5]) (rest := [.int x3]) F hP (mtX7_setOf l D cA ad hI _ x5 M_30 _ hw) kw_103 kw_101 kw_52 kw_102 ⟨by decide, by decide, by decide +kernel⟩ ⟨rfl, rfl, Nat.le_of_ble_eq_true rfl, Nat.le_of_ble_eq_true rfl⟩ rfl hl.1 rfl (Nat.le_of_ble_eq_true rfl) dX1_enteredInto_54 ⟨Nat.zero_le _, Nat.zero_le _⟩) hS (fun _ h => h) (fun r_54 M_54 H locs hw hP hS _ _ => ?_)
            refine lv_ior hx hb dX1_enteredInto_57 ?_
            refine lv_topi (fun x3_58 ex3_58 => ?_)
            replace hw := hw x3_58 ex3_58
            refine lv_istore_n (lv' := [(3, .int x3_58), (0, .ref (ad 1)), (1, .int p1), (2, .int p2), (4, .int x4), (5, .int x5)]) hx hb dX1_enteredInto_58 rfl hl (by decide) rfl (fun ls hl => ?_)
            refine lv_aload_n hx hb dX1_enteredInto_59 rfl (lv_at hl 1 rfl) ?_
            refine pt_get F hP (pt_c1 _ pt_k1) (pt_l1 pt_k1) inX1 rfl 0 (by decide) kw_222 rfl rfl dX1_enteredInto_60 ?_
            refine lv_iload hx hb dX1_enteredInto_63 (lv_at hl 5 rfl) ?_
            have hv65 := hw.1
            replace hw := hw.2
            refine pt_alds F hP hv65 dX1_enteredInto_65 ?_
            refine pt_get F hP (pt_c5 _ (pt_ks hv65)) (pt_l5 (pt_ks hv65)) inX5 rfl 2 (by decide) kw_136 rfl rfl dX1_enteredInto_66 ?_
            refine lv_iconst (v := 1) hx hb dX1_enteredInto_69 (by decide) ?_
            refine lv_icmp_ne (tgt := 85) hx hb dX1_enteredInto_70 (by decide) (fun hc70 => ?_) (fun hc70 => ?_)
            · replace hw := hw.1 hc70
              exact J85 x3_58 x4 x5 M_54 _ _ _ hw hP hS (lv_sub hl [1, 2, 3, 0, 4, 5] rfl)
            · replace hw := hw.2 hc70
              refine lv_iload hx hb dX1_enteredInto_73 (lv_at hl 4 rfl) ?_
              refine lv_aload_n hx hb dX1_enteredInto_75 rfl (lv_at hl 1 rfl) ?_
              refine lv_iload hx hb dX1_enteredInto_76 (lv_at hl 5 rfl) ?_
              refine lv_iload_n hx hb dX1_enteredInto_78 rfl (lv_at hl 2 rfl) ?_
              refine pt_calli (pt_runV (n := 2) (As := [.int x5, .int p1]) (rest := [.int x4]) F hP (pt_c1 _ pt_k1) (pt_l1 pt_k1) rfl (mtX1_partsAside l D cA ad hI _ x5 p1 M_54 _ hw) kw_814 kw_811 kw_53 kw_813 kw_19 ⟨by decide, by decide, by decide +kernel⟩ ⟨rfl, rfl, Nat.le_of_ble_eq_true rfl, Nat.le_of_ble_eq_true rfl⟩ rfl hl.1 rfl (Nat.le_of_ble_eq_true rfl) dX1_enteredInto_79 ⟨Nat.zero_le _, Nat.zero_le _⟩) hS (fun _ h => h) (fun r_79 M_79 H locs hw hP hS _ _ => ?_)
              refine lv_ior hx hb dX1_enteredInto_82 ?_
              refine lv_topi (fun x4_83 ex4_83 => ?_)
              replace hw := hw x4_83 ex4_83
              refine lv_istore (lv' := [(4, .int x4_83), (3, .int x3_58), (0, .ref (ad 1)), (1, .int p1), (2, .int p2), (5, .int x5)]) hx hb dX1_enteredInto_83 hl (by decide) rfl (fun ls hl => ?_)
              exact J85 x3_58 x4_83 x5 M_79 _ _ _ hw hP hS (lv_sub hl [2, 3, 4, 1, 0, 5] rfl)
  unfold wpX1_enteredInto at hw
  refine lv_iconst (v := 0) hx hb dX1_enteredInto_0 (by decide) ?_
  refine lv_istore_n (lv' := [(3, .int 0), (0, .ref (ad 1)), (1, .int p1), (2, .int p2)]) hx hb dX1_enteredInto_1 rfl hl (by decide) rfl (fun ls hl => ?_)
  refine lv_iload_n hx hb dX1_enteredInto_2 rfl (lv_at hl 2 rfl) ?_
  refine lv_istore (lv' := [(4, .int p1), (3, .int 0), (0, .ref (ad 1)), (1, .int p1), (2, .int p2)]) hx hb dX1_enteredInto_3 hl (by decide) rfl (fun ls hl => ?_)
  refine lv_iload_n hx hb dX1_enteredInto_5 rfl (lv_at hl 4 rfl) ?_
  refine lv_iconst (v := 1) hx hb dX1_enteredInto_6 (by decide) ?_
  refine lv_iadd hx hb dX1_enteredInto_7 ?_
  refine lv_topi (fun x5_8 ex5_8 => ?_)
  replace hw := hw x5_8 ex5_8
  refine lv_istore (lv' := [(5, .int x5_8), (4, .int p1), (3, .int 0), (0, .ref (ad 1)), (1, .int p1), (2, .int p2)]) hx hb dX1_enteredInto_8 hl (by decide) rfl (fun ls hl => ?_)
  obtain ⟨n_, hw⟩ := hw
  exact L10 n_ 0 p1 x5_8 M _ _ _ hw hP hS (lv_sub hl [3, 4, 5, 2, 1, 0] rfl)
end
section
-- ===== X1_endedAmong
def wjX1_endedAmong_106 (p1 : Int32) (Q : Int32 → pt_M → Prop) (R9 : Int32 → Int32 → pt_M → Prop) (x2 : Int32) (x3 : Int32) (M : pt_M) : Prop :=
  ∀ x3_106 : Int32, x3_106 = x3 + (-1) → R9 x2 x3_106 M
def wjX1_endedAmong_99 (p1 : Int32) (Q : Int32 → pt_M → Prop) (R9 : Int32 → Int32 → pt_M → Prop) (x2 : Int32) (x3 : Int32) (M : pt_M) : Prop :=
  wpX7_setOf x3 M (fun (r_101 : Int32) (M_101 : pt_M) => ∀ x2_105 : Int32, x2_105 = (x2 ||| r_101) → wjX1_endedAmong_106 p1 Q R9 x2_105 x3 M_101)
def wjX1_endedAmong_87 (p1 : Int32) (Q : Int32 → pt_M → Prop) (R9 : Int32 → Int32 → pt_M → Prop) (x2 : Int32) (x3 : Int32) (x5 : Int32) (xs0 : Int32) (M : pt_M) : Prop :=
  (¬ x5 = 0 → wjX1_endedAmong_99 p1 Q R9 x2 x3 M) ∧ (x5 = 0 → (xs0 = 0 → wjX1_endedAmong_106 p1 Q R9 x2 x3 M) ∧ (¬ xs0 = 0 → wjX1_endedAmong_99 p1 Q R9 x2 x3 M))
def wjX1_endedAmong_86 (p1 : Int32) (Q : Int32 → pt_M → Prop) (R9 : Int32 → Int32 → pt_M → Prop) (x2 : Int32) (x3 : Int32) (x5 : Int32) (M : pt_M) : Prop :=
  wjX1_endedAmong_87 p1 Q R9 x2 x3 x5 0 M
def wjX1_endedAmong_53 (p1 : Int32) (Q : Int32 → pt_M → Prop) (R9 : Int32 → Int32 → pt_M → Prop) (x2 : Int32) (x3 : Int32) (x4 : Int32) (xs0 : Int32) (M : pt_M) : Prop :=
  vp_in x3 20 ∧ ((¬ (M (pt_s x3) 2) = 1 → wjX1_endedAmong_86 p1 Q R9 x2 x3 xs0 M) ∧ ((M (pt_s x3) 2) = 1 → (x4 = 0 → wjX1_endedAmong_86 p1 Q R9 x2 x3 xs0 M) ∧ (¬ x4 = 0 → (¬ (x4 &&& (x2 ^^^ (-1))) = 0 → wjX1_endedAmong_86 p1 Q R9 x2 x3 xs0 M) ∧ ((x4 &&& (x2 ^^^ (-1))) = 0 → wjX1_endedAmong_87 p1 Q R9 x2 x3 xs0 1 M))))
def wjX1_endedAmong_52 (p1 : Int32) (Q : Int32 → pt_M → Prop) (R9 : Int32 → Int32 → pt_M → Prop) (x2 : Int32) (x3 : Int32) (x4 : Int32) (M : pt_M) : Prop :=
  wjX1_endedAmong_53 p1 Q R9 x2 x3 x4 0 M
def lbX1_endedAmong_9 (p1 : Int32) (Q : Int32 → pt_M → Prop)  (R9 : Int32 → Int32 → pt_M → Prop) (x2 : Int32) (x3 : Int32) (M : pt_M) : Prop :=
  (x3 < 0 → Q x2 M) ∧ (¬ x3 < 0 → vp_in x3 20 ∧ (∀ x4_22 : Int32, x4_22 = (M (pt_s x3) 5) → vp_in x3 20 ∧ ((¬ (M (pt_s x3) 2) = 0 → wjX1_endedAmong_52 p1 Q R9 x2 x3 x4_22 M) ∧ ((M (pt_s x3) 2) = 0 → (((x4_22 &&& (M 1 6)) &&& p1) = 0 → wjX1_endedAmong_52 p1 Q R9 x2 x3 x4_22 M) ∧ (¬ ((x4_22 &&& (M 1 6)) &&& p1) = 0 → wjX1_endedAmong_53 p1 Q R9 x2 x3 x4_22 1 M)))))
def lpX1_endedAmong_9 (p1 : Int32) (Q : Int32 → pt_M → Prop)  : Nat → Int32 → Int32 → pt_M → Prop
  | 0 => fun _ _ _ => False
  | n + 1 => fun x2 x3 M => lbX1_endedAmong_9 p1 Q (lpX1_endedAmong_9 p1 Q n) x2 x3 M
def wpX1_endedAmong (p1 : Int32) (M : pt_M) (Q : Int32 → pt_M → Prop) : Prop :=
  ∀ x3_8 : Int32, x3_8 = ((M 1 3) - 1) → ∃ n : Nat, lpX1_endedAmong_9 p1 Q n 0 x3_8 M
set_option maxHeartbeats 4000000 in
set_option maxRecDepth 100000 in
theorem mtX1_endedAmong (l : Launch) (D : va_G) (cA : Nat → ClassId) (ad : Nat → Nat) (hI : pt_I ad) (sz : Nat) (p1 : Int32) (M : pt_M) (Q : Int32 → pt_M → Prop) (hw : wpX1_endedAmong p1 M Q) : Met l yX1_endedAmong (Cond.code yX1_endedAmong cX1_endedAmong 7 (some .int) :: lw_all) ({ frames := 1, cells := 0, slots := 0, locals := 20 } : Room) (va_Pc [.ref (ad 1), .int p1] (pt_P D cA ad sz M)) (va_Qi Q (pt_B D cA ad) (pt_fr ad sz)) 0 0 (pt_fr ad sz) := by
  refine Met.ofW (cc := cX1_endedAmong) (maxL := 7) (ret := (some .int)) (by decide) rfl ?_
  intro p e s m args below meth c s₁ B hml hv
  obtain ⟨rfl, hsz, hP, hK⟩ := hv
  have hx := B.exec
  have hb := B.bytes
  have hr := B.returns
  have hts0 := atoms_spec (ws := (Cond.code yX1_endedAmong cX1_endedAmong 7 (some .int) :: lw_all)) B.pre
  have hown : s.vm.findClass RX1 = some m.cls := findClass_of_methodNamed B.named
  have hlocks := B.notSynchronized
  subst hsz
  have F : pt_F p m c cX1_endedAmong 7 s _ RX1 D cA := ⟨⟨hx, hb, hml, hown, fun w h => hts0 w (List.mem_cons_of_mem _ h)⟩, hK⟩
  have hD : ∀ M, va_D (pt_fr ad s.heap.size) (pt_W cA ad M) := pt_D hI (fun k h => Or.inl ⟨k, h, rfl⟩)
  have hS : va_S (pt_fr ad s.heap.size) s.heap s.heap [] := va_S.rf
  have hl := lv_entry ([.ref (ad 1), .int p1]) (n := 7) (Nat.le_of_ble_eq_true rfl)
  rw [lg_entry_eq]
  generalize (lg_sl ([.ref (ad 1), .int p1]) ++ List.replicate (7 - (lg_sl ([.ref (ad 1), .int p1])).length) Slot.unset).toArray = ls at hl ⊢
  have hl : lv_has ls 7 [(0, .ref (ad 1)), (1, .int p1)] := hl
  have L9 : ∀ (n9 : Nat) (x2 : Int32) (x3 : Int32) (M : pt_M) (H : Heap) (locs : List Loc) (ls : Array Slot), lpX1_endedAmong_9 p1 Q n9 x2 x3 M → va_P D pt_cl (pt_W cA ad M) H → va_S (pt_fr ad s.heap.size) s.heap H locs → lv_has ls 7 [(0, .ref (ad 1)), (1, .int p1), (2, .int x2), (3, .int x3)] → W p l e (headSpec (Cond.code yX1_endedAmong cX1_endedAmong 7 (some .int) :: lw_all) ({ frames := 1, cells := 0, slots := 0, locals := 20 } : Room)).room s m ([.ref (ad 1), .int p1] : List Value).toArray below meth c H locs 0 0 (MQ below (va_Qi Q (pt_B D cA ad) (pt_fr ad s.heap.size)) ([.ref (ad 1), .int p1] : List Value).toArray s 0 0 (pt_fr ad s.heap.size)) (F0 m 9 ls []) := by
    intro n9
    induction n9 with
    | zero => intro x2 x3 M H locs ls hw; exact hw.elim
    | succ n9 ih9 =>
      have J106 : ∀ (x2 : Int32) (x3 : Int32) (M : pt_M) (H : Heap) (locs : List Loc) (ls : Array Slot), wjX1_endedAmong_106 p1 Q (lpX1_endedAmong_9 p1 Q n9) x2 x3 M → va_P D pt_cl (pt_W cA ad M) H → va_S (pt_fr ad s.heap.size) s.heap H locs → lv_has ls 7 [(0, .ref (ad 1)), (1, .int p1), (2, .int x2), (3, .int x3)] → W p l e (headSpec (Cond.code yX1_endedAmong cX1_endedAmong 7 (some .int) :: lw_all) ({ frames := 1, cells := 0, slots := 0, locals := 20 } : Room)).room s m ([.ref (ad 1), .int p1] : List Value).toArray below meth c H locs 0 0 (MQ below (va_Qi Q (pt_B D cA ad) (pt_fr ad s.heap.size)) ([.ref (ad 1), .int p1] : List Value).toArray s 0 0 (pt_fr ad s.heap.size)) (F0 m 106 ls []) := by
        intro x2 x3 M H locs ls hw hP hS hl
        unfold wjX1_endedAmong_106 at hw
        obtain ⟨x3_106, ex3_106⟩ : ∃ y : Int32, y = x3 + (-1) := ⟨_, rfl⟩
        replace hw := hw x3_106 ex3_106
        refine lv_iinc (v := x3_106) (lv' := [(3, .int x3_106), (0, .ref (ad 1)), (1, .int p1), (2, .int x2)]) hx hb dX1_endedAmong_106 hl (k := 3) rfl (by rw [ex3_106]; rfl) (by decide) rfl (fun ls hl => ?_)
        refine lv_goto (tgt := 9) hx hb dX1_endedAmong_109 (by decide) ?_
        exact ih9 x2 x3_106 M _ _ _ hw hP hS (lv_sub hl [1, 2, 3, 0] rfl)
      have J99 : ∀ (x2 : Int32) (x3 : Int32) (M : pt_M) (H : Heap) (locs : List Loc) (ls : Array Slot), wjX1_endedAmong_99 p1 Q (lpX1_endedAmong_9 p1 Q n9) x2 x3 M → va_P D pt_cl (pt_W cA ad M) H → va_S (pt_fr ad s.heap.size) s.heap H locs → lv_has ls 7 [(0, .ref (ad 1)), (1, .int p1), (2, .int x2), (3, .int x3)] → W p l e (headSpec (Cond.code yX1_endedAmong cX1_endedAmong 7 (some .int) :: lw_all) ({ frames := 1, cells := 0, slots := 0, locals := 20 } : Room)).room s m ([.ref (ad 1), .int p1] : List Value).toArray below meth c H locs 0 0 (MQ below (va_Qi Q (pt_B D cA ad) (pt_fr ad s.heap.size)) ([.ref (ad 1), .int p1] : List Value).toArray s 0 0 (pt_fr ad s.heap.size)) (F0 m 99 ls []) := by
        intro x2 x3 M H locs ls hw hP hS hl
        unfold wjX1_endedAmong_99 at hw
        refine lv_iload_n hx hb dX1_endedAmong_99 rfl (lv_at hl 2 rfl) ?_
        refine lv_iload_n hx hb dX1_endedAmong_100 rfl (lv_at hl 3 rfl) ?_
        refine pt_calli (pt_runSN (n := 1) (As := [.int x3]) (rest := [.int x2]) F hP (mtX7_setOf l D cA ad hI _ x3 M _ hw) kw_103 kw_101 kw_52 kw_102 ⟨by decide, by decide, by decide +kernel⟩ ⟨rfl, rfl, Nat.le_of_ble_eq_true rfl, Nat.le_of_ble_eq_true rfl⟩ rfl hl.1 rfl (Nat.le_of_ble_eq_true rfl) dX1_endedAmong_101 ⟨Nat.zero_le _, Nat.zero_le _⟩) hS (fun _ h => h) (fun r_101 M_101 H locs hw hP hS _ _ => ?_)
        refine lv_ior hx hb dX1_endedAmong_104 ?_
        refine lv_topi (fun x2_105 ex2_105 => ?_)
        replace hw := hw x2_105 ex2_105
        refine lv_istore_n (lv' := [(2, .int x2_105), (0, .ref (ad 1)), (1, .int p1), (3, .int x3)]) hx hb dX1_endedAmong_105 rfl hl (by decide) rfl (fun ls hl => ?_)
        exact J106 x2_105 x3 M_101 _ _ _ hw hP hS (lv_sub hl [1, 2, 0, 3] rfl)
      have J87 : ∀ (x2 : Int32) (x3 : Int32) (x5 : Int32) (xs0 : Int32) (M : pt_M) (H : Heap) (locs : List Loc) (ls : Array Slot), wjX1_endedAmong_87 p1 Q (lpX1_endedAmong_9 p1 Q n9) x2 x3 x5 xs0 M → va_P D pt_cl (pt_W cA ad M) H → va_S (pt_fr ad s.heap.size) s.heap H locs → lv_has ls 7 [(0, .ref (ad 1)), (1, .int p1), (2, .int x2), (3, .int x3), (5, .int x5)] → W p l e (headSpec (Cond.code yX1_endedAmong cX1_endedAmong 7 (some .int) :: lw_all) ({ frames := 1, cells := 0, slots := 0, locals := 20 } : Room)).room s m ([.ref (ad 1), .int p1] : List Value).toArray below meth c H locs 0 0 (MQ below (va_Qi Q (pt_B D cA ad) (pt_fr ad s.heap.size)) ([.ref (ad 1), .int p1] : List Value).toArray s 0 0 (pt_fr ad s.heap.size)) (F0 m 87 ls [.int xs0]) := by
        intro x2 x3 x5 xs0 M H locs ls hw hP hS hl
        unfold wjX1_endedAmong_87 at hw
        refine lv_istore (lv' := [(6, .int xs0), (0, .ref (ad 1)), (1, .int p1), (2, .int x2), (3, .int x3), (5, .int x5)]) hx hb dX1_endedAmong_87 hl (by decide) rfl (fun ls hl => ?_)
        refine lv_iload hx hb dX1_endedAmong_89 (lv_at hl 5 rfl) ?_
        refine lv_if_ne (tgt := 99) hx hb dX1_endedAmong_91 (by decide) (fun hc91 => ?_) (fun hc91 => ?_)
        · replace hw := hw.1 hc91
          exact J99 x2 x3 M _ _ _ hw hP hS (lv_sub hl [1, 2, 3, 4] rfl)
        · replace hw := hw.2 hc91
          refine lv_iload hx hb dX1_endedAmong_94 (lv_at hl 0 rfl) ?_
          refine lv_if_eq (tgt := 106) hx hb dX1_endedAmong_96 (by decide) (fun hc96 => ?_) (fun hc96 => ?_)
          · replace hw := hw.1 hc96
            exact J106 x2 x3 M _ _ _ hw hP hS (lv_sub hl [1, 2, 3, 4] rfl)
          · replace hw := hw.2 hc96
            exact J99 x2 x3 M _ _ _ hw hP hS (lv_sub hl [1, 2, 3, 4] rfl)
      have J86 : ∀ (x2 : Int32) (x3 : Int32) (x5 : Int32) (M : pt_M) (H : Heap) (locs : List Loc) (ls : Array Slot), wjX1_endedAmong_86 p1 Q (lpX1_endedAmong_9 p1 Q n9) x2 x3 x5 M → va_P D pt_cl (pt_W cA ad M) H → va_S (pt_fr ad s.heap.size) s.heap H locs → lv_has ls 7 [(0, .ref (ad 1)), (1, .int p1), (2, .int x2), (3, .int x3), (5, .int x5)] → W p l e (headSpec (Cond.code yX1_endedAmong cX1_endedAmong 7 (some .int) :: lw_all) ({ frames := 1, cells := 0, slots := 0, locals := 20 } : Room)).room s m ([.ref (ad 1), .int p1] : List Value).toArray below meth c H locs 0 0 (MQ below (va_Qi Q (pt_B D cA ad) (pt_fr ad s.heap.size)) ([.ref (ad 1), .int p1] : List Value).toArray s 0 0 (pt_fr ad s.heap.size)) (F0 m 86 ls []) := by
        intro x2 x3 x5 M H locs ls hw hP hS hl
        unfold wjX1_endedAmong_86 at hw
        refine lv_iconst (v := 0) hx hb dX1_endedAmong_86 (by decide) ?_
        exact J87 x2 x3 x5 0 M _ _ _ hw hP hS (lv_sub hl [0, 1, 2, 3, 4] rfl)
      have J53 : ∀ (x2 : Int32) (x3 : Int32) (x4 : Int32) (xs0 : Int32) (M : pt_M) (H : Heap) (locs : List Loc) (ls : Array Slot), wjX1_endedAmong_53 p1 Q (lpX1_endedAmong_9 p1 Q n9) x2 x3 x4 xs0 M → va_P D pt_cl (pt_W cA ad M) H → va_S (pt_fr ad s.heap.size) s.heap H locs → lv_has ls 7 [(0, .ref (ad 1)), (1, .int p1), (2, .int x2), (3, .int x3), (4, .int x4)] → W p l e (headSpec (Cond.code yX1_endedAmong cX1_endedAmong 7 (some .int) :: lw_all) ({ frames := 1, cells := 0, slots := 0, locals := 20 } : Room)).room s m ([.ref (ad 1), .int p1] : List Value).toArray below meth c H locs 0 0 (MQ below (va_Qi Q (pt_B D cA ad) (pt_fr ad s.heap.size)) ([.ref (ad 1), .int p1] : List Value).toArray s 0 0 (pt_fr ad s.heap.size)) (F0 m 53 ls [.int xs0]) := by
        intro x2 x3 x4 xs0 M H locs ls hw hP hS hl
        unfold wjX1_endedAmong_53 at hw
        refine lv_istore (lv' := [(5, .int xs0), (0, .ref (ad 1)), (1, .int p1), (2, .int x2), (3, .int x3), (4, .int x4)]) hx hb dX1_endedAmong_53 hl (by decide) rfl (fun ls hl => ?_)
        refine lv_aload_n hx hb dX1_endedAmong_55 rfl (lv_at hl 1 rfl) ?_
        refine pt_get F hP (pt_c1 _ pt_k1) (pt_l1 pt_k1) inX1 rfl 0 (by decide) kw_222 rfl rfl dX1_endedAmong_56 ?_
        refine lv_iload_n hx hb dX1_endedAmong_59 rfl (lv_at hl 4 rfl) ?_
        have hv60 := hw.1
        replace hw := hw.2
        refine pt_alds F hP hv60 dX1_endedAmong_60 ?_
        refine pt_get F hP (pt_c5 _ (pt_ks hv60)) (pt_l5 (pt_ks hv60)) inX5 rfl 2 (by decide) kw_136 rfl rfl dX1_endedAmong_61 ?_
        refine lv_iconst (v := 1) hx hb dX1_endedAmong_64 (by decide) ?_
        refine lv_icmp_ne (tgt := 86) hx hb dX1_endedAmong_65 (by decide) (fun hc65 => ?_) (fun hc65 => ?_)
        · replace hw := hw.1 hc65
          exact J86 x2 x3 xs0 M _ _ _ hw hP hS (lv_sub hl [1, 2, 3, 4, 0] rfl)
        · replace hw := hw.2 hc65
          refine lv_iload hx hb dX1_endedAmong_68 (lv_at hl 5 rfl) ?_
          refine lv_if_eq (tgt := 86) hx hb dX1_endedAmong_70 (by decide) (fun hc70 => ?_) (fun hc70 => ?_)
          · replace hw := hw.1 hc70
            exact J86 x2 x3 xs0 M _ _ _ hw hP hS (lv_sub hl [1, 2, 3, 4, 0] rfl)
          · replace hw := hw.2 hc70
            refine lv_iload hx hb dX1_endedAmong_73 (lv_at hl 5 rfl) ?_
            refine lv_iload_n hx hb dX1_endedAmong_75 rfl (lv_at hl 3 rfl) ?_
            refine lv_iconst (v := (-1)) hx hb dX1_endedAmong_76 (by decide) ?_
            refine lv_ixor hx hb dX1_endedAmong_77 ?_
            refine lv_iand hx hb dX1_endedAmong_78 ?_
            refine lv_if_ne (tgt := 86) hx hb dX1_endedAmong_79 (by decide) (fun hc79 => ?_) (fun hc79 => ?_)
            · replace hw := hw.1 hc79
              exact J86 x2 x3 xs0 M _ _ _ hw hP hS (lv_sub hl [1, 2, 3, 4, 0] rfl)
            · replace hw := hw.2 hc79
              refine lv_iconst (v := 1) hx hb dX1_endedAmong_82 (by decide) ?_
              refine lv_goto (tgt := 87) hx hb dX1_endedAmong_83 (by decide) ?_
              exact J87 x2 x3 xs0 1 M _ _ _ hw hP hS (lv_sub hl [1, 2, 3, 4, 0] rfl)
      have J52 : ∀ (x2 : Int32) (x3 : Int32) (x4 : Int32) (M : pt_M) (H : Heap) (locs : List Loc) (ls : Array Slot), wjX1_endedAmong_52 p1 Q (lpX1_endedAmong_9 p1 Q n9) x2 x3 x4 M → va_P D pt_cl (pt_W cA ad M) H → va_S (pt_fr ad s.heap.size) s.heap H locs → lv_has ls 7 [(0, .ref (ad 1)), (1, .int p1), (2, .int x2), (3, .int x3), (4, .int x4)] → W p l e (headSpec (Cond.code yX1_endedAmong cX1_endedAmong 7 (some .int) :: lw_all) ({ frames := 1, cells := 0, slots := 0, locals := 20 } : Room)).room s m ([.ref (ad 1), .int p1] : List Value).toArray below meth c H locs 0 0 (MQ below (va_Qi Q (pt_B D cA ad) (pt_fr ad s.heap.size)) ([.ref (ad 1), .int p1] : List Value).toArray s 0 0 (pt_fr ad s.heap.size)) (F0 m 52 ls []) := by
        intro x2 x3 x4 M H locs ls hw hP hS hl
        unfold wjX1_endedAmong_52 at hw
        refine lv_iconst (v := 0) hx hb dX1_endedAmong_52 (by decide) ?_
        exact J53 x2 x3 x4 0 M _ _ _ hw hP hS (lv_sub hl [0, 1, 2, 3, 4] rfl)
      intro x2 x3 M H locs ls hw hP hS hl
      replace hw : lbX1_endedAmong_9 p1 Q (lpX1_endedAmong_9 p1 Q n9) x2 x3 M := hw
      unfold lbX1_endedAmong_9 at hw
      refine lv_iload_n hx hb dX1_endedAmong_9 rfl (lv_at hl 3 rfl) ?_
      refine lv_if_lt (tgt := 112) hx hb dX1_endedAmong_10 (by decide) (fun hc10 => ?_) (fun hc10 => ?_)
      · replace hw := hw.1 hc10
        refine lv_iload_n hx hb dX1_endedAmong_112 rfl (lv_at hl 2 rfl) ?_
        exact W.iret (v := x2) hx hb hr (fun t ht hW => ⟨⟨x2, M, rfl, hw, by unfold pt_B; rw [ht]; exact hP⟩, hS.F ht⟩) hS.2.2 dX1_endedAmong_113
      · replace hw := hw.2 hc10
        refine lv_aload_n hx hb dX1_endedAmong_13 rfl (lv_at hl 0 rfl) ?_
        refine pt_get F hP (pt_c1 _ pt_k1) (pt_l1 pt_k1) inX1 rfl 0 (by decide) kw_222 rfl rfl dX1_endedAmong_14 ?_
        refine lv_iload_n hx hb dX1_endedAmong_17 rfl (lv_at hl 3 rfl) ?_
        have hv18 := hw.1
        replace hw := hw.2
        refine pt_alds F hP hv18 dX1_endedAmong_18 ?_
        refine pt_get F hP (pt_c5 _ (pt_ks hv18)) (pt_l5 (pt_ks hv18)) inX5 rfl 5 (by decide) kw_148 rfl rfl dX1_endedAmong_19 ?_
        refine lv_topi (fun x4_22 ex4_22 => ?_)
        replace hw := hw x4_22 ex4_22
        refine lv_istore (lv' := [(4, .int x4_22), (0, .ref (ad 1)), (1, .int p1), (2, .int x2), (3, .int x3)]) hx hb dX1_endedAmong_22 hl (by decide) rfl (fun ls hl => ?_)
        refine lv_aload_n hx hb dX1_endedAmong_24 rfl (lv_at hl 1 rfl) ?_
        refine pt_get F hP (pt_c1 _ pt_k1) (pt_l1 pt_k1) inX1 rfl 0 (by decide) kw_222 rfl rfl dX1_endedAmong_25 ?_
        refine lv_iload_n hx hb dX1_endedAmong_28 rfl (lv_at hl 4 rfl) ?_
        have hv29 := hw.1
        replace hw := hw.2
        refine pt_alds F hP hv29 dX1_endedAmong_29 ?_
        refine pt_get F hP (pt_c5 _ (pt_ks hv29)) (pt_l5 (pt_ks hv29)) inX5 rfl 2 (by decide) kw_136 rfl rfl dX1_endedAmong_30 ?_
        refine lv_if_ne (tgt := 52) hx hb dX1_endedAmong_33 (by decide) (fun hc33 => ?_) (fun hc33 => ?_)
        · replace hw := hw.1 hc33
          exact J52 x2 x3 x4_22 M _ _ _ hw hP hS (lv_sub hl [1, 2, 3, 4, 0] rfl)
        · replace hw := hw.2 hc33
          refine lv_iload hx hb dX1_endedAmong_36 (lv_at hl 0 rfl) ?_
          refine lv_aload_n hx hb dX1_endedAmong_38 rfl (lv_at hl 1 rfl) ?_
          refine pt_get F hP (pt_c1 _ pt_k1) (pt_l1 pt_k1) inX1 rfl 6 (by decide) kw_238 rfl rfl dX1_endedAmong_39 ?_
          refine lv_iand hx hb dX1_endedAmong_42 ?_
          refine lv_iload_n hx hb dX1_endedAmong_43 rfl (lv_at hl 2 rfl) ?_
          refine lv_iand hx hb dX1_endedAmong_44 ?_
          refine lv_if_eq (tgt := 52) hx hb dX1_endedAmong_45 (by decide) (fun hc45 => ?_) (fun hc45 => ?_)
          · replace hw := hw.1 hc45
            exact J52 x2 x3 x4_22 M _ _ _ hw hP hS (lv_sub hl [1, 2, 3, 4, 0] rfl)
          · replace hw := hw.2 hc45
            refine lv_iconst (v := 1) hx hb dX1_endedAmong_48 (by decide) ?_
            refine lv_goto (tgt := 53) hx hb dX1_endedAmong_49 (by decide) ?_
            exact J53 x2 x3 x4_22 1 M _ _ _ hw hP hS (lv_sub hl [1, 2, 3, 4, 0] rfl)
  unfold wpX1_endedAmong at hw
  refine lv_iconst (v := 0) hx hb dX1_endedAmong_0 (by decide) ?_
  refine lv_istore_n (lv' := [(2, .int 0), (0, .ref (ad 1)), (1, .int p1)]) hx hb dX1_endedAmong_1 rfl hl (by decide) rfl (fun ls hl => ?_)
  refine lv_aload_n hx hb dX1_endedAmong_2 rfl (lv_at hl 1 rfl) ?_
  refine pt_get F hP (pt_c1 _ pt_k1) (pt_l1 pt_k1) inX1 rfl 3 (by decide) kw_230 rfl rfl dX1_endedAmong_3 ?_
  refine lv_iconst (v := 1) hx hb dX1_endedAmong_6 (by decide) ?_
  refine lv_isub hx hb dX1_endedAmong_7 ?_
  refine lv_topi (fun x3_8 ex3_8 => ?_)
  replace hw := hw x3_8 ex3_8
  refine lv_istore_n (lv' := [(3, .int x3_8), (2, .int 0), (0, .ref (ad 1)), (1, .int p1)]) hx hb dX1_endedAmong_8 rfl hl (by decide) rfl (fun ls hl => ?_)
  obtain ⟨n_, hw⟩ := hw
  exact L9 n_ 0 x3_8 M _ _ _ hw hP hS (lv_sub hl [2, 3, 1, 0] rfl)
-- ===== X3_reset
def lbX3_reset_9 (k0 : Nat) (Q : pt_M → Prop)  (R9 : Int32 → pt_M → Prop) (x1 : Int32) (M : pt_M) : Prop :=
  (30 ≤ x1 → ∀ M_33 : pt_M, M_33 = pt_st M k0 4 0 → ∀ M_38 : pt_M, M_38 = pt_st M_33 k0 5 0 → ∀ M_43 : pt_M, M_43 = pt_st M_38 k0 6 0 → ∀ M_48 : pt_M, M_48 = pt_st M_43 k0 8 0 → Q M_48) ∧ (¬ 30 ≤ x1 → vp_in x1 30 ∧ ∀ M_24 : pt_M, M_24 = pt_st M (k0 + 5) (Int32.toNatClampNeg x1) 0 → ∀ x1_25 : Int32, x1_25 = x1 + 1 → R9 x1_25 M_24)
def lpX3_reset_9 (k0 : Nat) (Q : pt_M → Prop)  : Nat → Int32 → pt_M → Prop
  | 0 => fun _ _ => False
  | n + 1 => fun x1 M => lbX3_reset_9 k0 Q (lpX3_reset_9 k0 Q n) x1 M
def wpX3_reset (k0 : Nat) (M : pt_M) (Q : pt_M → Prop) : Prop :=
  wpX4_clear (k0 + 1) M (fun (M_4 : pt_M) => ∃ n : Nat, lpX3_reset_9 k0 Q n 0 M_4)
set_option maxHeartbeats 4000000 in
set_option maxRecDepth 100000 in
theorem mtX3_reset (l : Launch) (D : va_G) (cA : Nat → ClassId) (ad : Nat → Nat) (hI : pt_I ad) (sz : Nat) (k0 : Nat) (hk0 : pt_kd k0 = 3) (M : pt_M) (Q : pt_M → Prop) (hw : wpX3_reset k0 M Q) : Met l yX3_reset (Cond.code yX3_reset cX3_reset 2 none :: lw_all) ({ frames := 2, cells := 0, slots := 0, locals := 42 } : Room) (va_Pc [.ref (ad k0)] (pt_P D cA ad sz M)) (va_Qv Q (pt_B D cA ad) (pt_fr ad sz)) 0 0 (pt_fr ad sz) := by
  refine Met.ofW (cc := cX3_reset) (maxL := 2) (ret := none) (by decide) rfl ?_
  intro p e s m args below meth c s₁ B hml hv
  obtain ⟨rfl, hsz, hP, hK⟩ := hv
  have hx := B.exec
  have hb := B.bytes
  have hr := B.returns
  have hts0 := atoms_spec (ws := (Cond.code yX3_reset cX3_reset 2 none :: lw_all)) B.pre
  have hown : s.vm.findClass RX3 = some m.cls := findClass_of_methodNamed B.named
  have hlocks := B.notSynchronized
  subst hsz
  have F : pt_F p m c cX3_reset 2 s _ RX3 D cA := ⟨⟨hx, hb, hml, hown, fun w h => hts0 w (List.mem_cons_of_mem _ h)⟩, hK⟩
  have hD : ∀ M, va_D (pt_fr ad s.heap.size) (pt_W cA ad M) := pt_D hI (fun k h => Or.inl ⟨k, h, rfl⟩)
  have hS : va_S (pt_fr ad s.heap.size) s.heap s.heap [] := va_S.rf
  have hl := lv_entry ([.ref (ad k0)]) (n := 2) (Nat.le_of_ble_eq_true rfl)
  rw [lg_entry_eq]
  generalize (lg_sl ([.ref (ad k0)]) ++ List.replicate (2 - (lg_sl ([.ref (ad k0)])).length) Slot.unset).toArray = ls at hl ⊢
  have hl : lv_has ls 2 [(0, .ref (ad k0))] := hl
  have L9 : ∀ (n9 : Nat) (x1 : Int32) (M : pt_M) (H : Heap) (locs : List Loc) (ls : Array Slot), lpX3_reset_9 k0 Q n9 x1 M → va_P D pt_cl (pt_W cA ad M) H → va_S (pt_fr ad s.heap.size) s.heap H locs → lv_has ls 2 [(0, .ref (ad k0)), (1, .int x1)] → W p l e (headSpec (Cond.code yX3_reset cX3_reset 2 none :: lw_all) ({ frames := 2, cells := 0, slots := 0, locals := 42 } : Room)).room s m ([.ref (ad k0)] : List Value).toArray below meth c H locs 0 0 (MQ below (va_Qv Q (pt_B D cA ad) (pt_fr ad s.heap.size)) ([.ref (ad k0)] : List Value).toArray s 0 0 (pt_fr ad s.heap.size)) (F0 m 9 ls []) := by
    intro n9
    induction n9 with
    | zero => intro x1 M H locs ls hw; exact hw.elim
    | succ n9 ih9 =>
      intro x1 M H locs ls hw hP hS hl
      replace hw : lbX3_reset_9 k0 Q (lpX3_reset_9 k0 Q n9) x1 M := hw
      unfold lbX3_reset_9 at hw
      refine lv_iload_n hx hb dX3_reset_9 rfl (lv_at hl 1 rfl) ?_
      refine lv_aload_n hx hb dX3_reset_10 rfl (lv_at hl 0 rfl) ?_
      refine pt_get F hP (pt_c3 _ hk0) (pt_l3 hk0) inX3 rfl 2 (by decide) kw_293 rfl rfl dX3_reset_11 ?_
      refine pt_alen (v := 30) F hP (pt_3f hk0) rfl dX3_reset_14 ?_
      refine lv_icmp_ge (tgt := 31) hx hb dX3_reset_15 (by decide) (fun hc15 => ?_) (fun hc15 => ?_)
      · replace hw := hw.1 hc15
        refine lv_aload_n hx hb dX3_reset_31 rfl (lv_at hl 0 rfl) ?_
        refine lv_iconst (v := 0) hx hb dX3_reset_32 (by decide) ?_
        refine pt_put F hP hD hS (pt_c3 _ hk0) (pt_l3 hk0) inX3 tyX3 tyX3_ok nmX3 rfl 4 (by decide) kw_297 rfl rfl rfl rfl (Nat.le_of_ble_eq_true rfl) (pt_c3 _ hk0) dX3_reset_33 (fun M_33 H locs eM_33 hP hS => ?_)
        replace hw := hw M_33 eM_33
        refine lv_aload_n hx hb dX3_reset_36 rfl (lv_at hl 0 rfl) ?_
        refine lv_iconst (v := 0) hx hb dX3_reset_37 (by decide) ?_
        refine pt_put F hP hD hS (pt_c3 _ hk0) (pt_l3 hk0) inX3 tyX3 tyX3_ok nmX3 rfl 5 (by decide) kw_299 rfl rfl rfl rfl (Nat.le_of_ble_eq_true rfl) (pt_c3 _ hk0) dX3_reset_38 (fun M_38 H locs eM_38 hP hS => ?_)
        replace hw := hw M_38 eM_38
        refine lv_aload_n hx hb dX3_reset_41 rfl (lv_at hl 0 rfl) ?_
        refine lv_iconst (v := 0) hx hb dX3_reset_42 (by decide) ?_
        refine pt_put F hP hD hS (pt_c3 _ hk0) (pt_l3 hk0) inX3 tyX3 tyX3_ok nmX3 rfl 6 (by decide) kw_301 rfl rfl rfl rfl (Nat.le_of_ble_eq_true rfl) (pt_c3 _ hk0) dX3_reset_43 (fun M_43 H locs eM_43 hP hS => ?_)
        replace hw := hw M_43 eM_43
        refine lv_aload_n hx hb dX3_reset_46 rfl (lv_at hl 0 rfl) ?_
        refine lv_iconst (v := 0) hx hb dX3_reset_47 (by decide) ?_
        refine pt_put F hP hD hS (pt_c3 _ hk0) (pt_l3 hk0) inX3 tyX3 tyX3_ok nmX3 rfl 8 (by decide) kw_304 rfl rfl rfl rfl (Nat.le_of_ble_eq_true rfl) (pt_c3 _ hk0) dX3_reset_48 (fun M_48 H locs eM_48 hP hS => ?_)
        replace hw := hw M_48 eM_48
        exact W.vret hx hb hr (fun t ht hW => ⟨⟨M_48, rfl, hw, by unfold pt_B; rw [ht]; exact hP⟩, hS.F ht⟩) hS.2.2 dX3_reset_51
      · replace hw := hw.2 hc15
        refine lv_aload_n hx hb dX3_reset_18 rfl (lv_at hl 0 rfl) ?_
        refine pt_get F hP (pt_c3 _ hk0) (pt_l3 hk0) inX3 rfl 2 (by decide) kw_293 rfl rfl dX3_reset_19 ?_
        refine lv_iload_n hx hb dX3_reset_22 rfl (lv_at hl 1 rfl) ?_
        refine lv_iconst (v := 0) hx hb dX3_reset_23 (by decide) ?_
        have hv24 := hw.1
        replace hw := hw.2
        refine pt_iast F hP hD hS (pt_3f hk0) hv24 dX3_reset_24 (fun M_24 H locs eM_24 hP hS => ?_)
        replace hw := hw M_24 eM_24
        obtain ⟨x1_25, ex1_25⟩ : ∃ y : Int32, y = x1 + 1 := ⟨_, rfl⟩
        replace hw := hw x1_25 ex1_25
        refine lv_iinc (v := x1_25) (lv' := [(1, .int x1_25), (0, .ref (ad k0))]) hx hb dX3_reset_25 hl (k := 1) rfl (by rw [ex1_25]; rfl) (by decide) rfl (fun ls hl => ?_)
        refine lv_goto (tgt := 9) hx hb dX3_reset_28 (by decide) ?_
        exact ih9 x1_25 M_24 _ _ _ hw hP hS (lv_sub hl [1, 0] rfl)
  unfold wpX3_reset at hw
  refine lv_aload_n hx hb dX3_reset_0 rfl (lv_at hl 0 rfl) ?_
  refine pt_get F hP (pt_c3 _ hk0) (pt_l3 hk0) inX3 rfl 1 (by decide) kw_290 rfl rfl dX3_reset_1 ?_
  refine pt_callv (pt_runV (n := 0) (As := []) (rest := []) F hP (pt_c4 _ (pt_3s hk0)) (pt_l4 (pt_3s hk0)) rfl (mtX4_clear l D cA ad hI _ (k0 + 1) (pt_3s hk0) M _ hw) kw_710 kw_707 kw_58 kw_708 kw_709 ⟨by decide, by decide, by decide +kernel⟩ ⟨rfl, rfl, Nat.le_of_ble_eq_true rfl, Nat.le_of_ble_eq_true rfl⟩ rfl hl.1 rfl (Nat.le_of_ble_eq_true rfl) dX3_reset_4 ⟨Nat.zero_le _, Nat.zero_le _⟩) hS (fun _ h => h) (fun M_4 H locs hw hP hS _ _ => ?_)
  refine lv_iconst (v := 0) hx hb dX3_reset_7 (by decide) ?_
  refine lv_istore_n (lv' := [(1, .int 0), (0, .ref (ad k0))]) hx hb dX3_reset_8 rfl hl (by decide) rfl (fun ls hl => ?_)
  obtain ⟨n_, hw⟩ := hw
  exact L9 n_ 0 M_4 _ _ _ hw hP hS (lv_sub hl [1, 0] rfl)
-- ===== X3_isAtEnd
def wjX3_isAtEnd_36 (k0 : Nat) (Q : Int32 → pt_M → Prop)  (xs0 : Int32) (M : pt_M) : Prop :=
  pt_zb xs0 ∧ Q xs0 M
def wpX3_isAtEnd (k0 : Nat) (M : pt_M) (Q : Int32 → pt_M → Prop) : Prop :=
  vp_in 0 20 ∧ (((((M (pt_s 0) 5) &&& (M 1 6)) &&& (M (k0 + 1) 3)) = 0 → wjX3_isAtEnd_36 k0 Q 0 M) ∧ (¬ (((M (pt_s 0) 5) &&& (M 1 6)) &&& (M (k0 + 1) 3)) = 0 → wjX3_isAtEnd_36 k0 Q 1 M))
set_option maxHeartbeats 4000000 in
set_option maxRecDepth 100000 in
theorem mtX3_isAtEnd (l : Launch) (D : va_G) (cA : Nat → ClassId) (ad : Nat → Nat) (hI : pt_I ad) (sz : Nat) (k0 : Nat) (hk0 : pt_kd k0 = 3) (M : pt_M) (Q : Int32 → pt_M → Prop) (hw : wpX3_isAtEnd k0 M Q) : Met l yX3_isAtEnd (Cond.code yX3_isAtEnd cX3_isAtEnd 1 (some .boolean) :: lw_all) ({ frames := 0, cells := 0, slots := 0, locals := 0 } : Room) (va_Pc [.ref (ad k0)] (pt_P D cA ad sz M)) (va_Qi Q (pt_B D cA ad) (pt_fr ad sz)) 0 0 (pt_fr ad sz) := by
  refine Met.ofW (cc := cX3_isAtEnd) (maxL := 1) (ret := (some .boolean)) (by decide) rfl ?_
  intro p e s m args below meth c s₁ B hml hv
  obtain ⟨rfl, hsz, hP, hK⟩ := hv
  have hx := B.exec
  have hb := B.bytes
  have hr := B.returns
  have hts0 := atoms_spec (ws := (Cond.code yX3_isAtEnd cX3_isAtEnd 1 (some .boolean) :: lw_all)) B.pre
  have hown : s.vm.findClass RX3 = some m.cls := findClass_of_methodNamed B.named
  have hlocks := B.notSynchronized
  subst hsz
  have F : pt_F p m c cX3_isAtEnd 1 s _ RX3 D cA := ⟨⟨hx, hb, hml, hown, fun w h => hts0 w (List.mem_cons_of_mem _ h)⟩, hK⟩
  have hD : ∀ M, va_D (pt_fr ad s.heap.size) (pt_W cA ad M) := pt_D hI (fun k h => Or.inl ⟨k, h, rfl⟩)
  have hS : va_S (pt_fr ad s.heap.size) s.heap s.heap [] := va_S.rf
  have hl := lv_entry ([.ref (ad k0)]) (n := 1) (Nat.le_of_ble_eq_true rfl)
  rw [lg_entry_eq]
  generalize (lg_sl ([.ref (ad k0)]) ++ List.replicate (1 - (lg_sl ([.ref (ad k0)])).length) Slot.unset).toArray = ls at hl ⊢
  have hl : lv_has ls 1 [(0, .ref (ad k0))] := hl
  have J36 : ∀ (xs0 : Int32) (M : pt_M) (H : Heap) (locs : List Loc) (ls : Array Slot), wjX3_isAtEnd_36 k0 Q xs0 M → va_P D pt_cl (pt_W cA ad M) H → va_S (pt_fr ad s.heap.size) s.heap H locs → lv_has ls 1 [] → W p l e (headSpec (Cond.code yX3_isAtEnd cX3_isAtEnd 1 (some .boolean) :: lw_all) ({ frames := 0, cells := 0, slots := 0, locals := 0 } : Room)).room s m ([.ref (ad k0)] : List Value).toArray below meth c H locs 0 0 (MQ below (va_Qi Q (pt_B D cA ad) (pt_fr ad s.heap.size)) ([.ref (ad k0)] : List Value).toArray s 0 0 (pt_fr ad s.heap.size)) (F0 m 36 ls [.int xs0]) := by
    intro xs0 M H locs ls hw hP hS hl
    unfold wjX3_isAtEnd_36 at hw
    exact W.zret (v := xs0) (ty := .boolean) hx hb hr (pt_zb_n hw.1) (fun t ht hW => ⟨⟨xs0, M, rfl, hw.2, by unfold pt_B; rw [ht]; exact hP⟩, hS.F ht⟩) hS.2.2 dX3_isAtEnd_36
  unfold wpX3_isAtEnd at hw
  refine lv_aload_n hx hb dX3_isAtEnd_0 rfl (lv_at hl 0 rfl) ?_
  refine pt_get F hP (pt_c3 _ hk0) (pt_l3 hk0) inX3 rfl 0 (by decide) kw_289 rfl rfl dX3_isAtEnd_1 ?_
  refine pt_get F hP (pt_c1 _ pt_k1) (pt_l1 pt_k1) inX1 rfl 0 (by decide) kw_224 rfl rfl dX3_isAtEnd_4 ?_
  refine lv_iconst (v := 0) hx hb dX3_isAtEnd_7 (by decide) ?_
  have hv8 := hw.1
  replace hw := hw.2
  refine pt_alds F hP hv8 dX3_isAtEnd_8 ?_
  refine pt_get F hP (pt_c5 _ (pt_ks hv8)) (pt_l5 (pt_ks hv8)) inX5 rfl 5 (by decide) kw_145 rfl rfl dX3_isAtEnd_9 ?_
  refine lv_aload_n hx hb dX3_isAtEnd_12 rfl (lv_at hl 0 rfl) ?_
  refine pt_get F hP (pt_c3 _ hk0) (pt_l3 hk0) inX3 rfl 0 (by decide) kw_289 rfl rfl dX3_isAtEnd_13 ?_
  refine pt_get F hP (pt_c1 _ pt_k1) (pt_l1 pt_k1) inX1 rfl 6 (by decide) kw_239 rfl rfl dX3_isAtEnd_16 ?_
  refine lv_iand hx hb dX3_isAtEnd_19 ?_
  refine lv_aload_n hx hb dX3_isAtEnd_20 rfl (lv_at hl 0 rfl) ?_
  refine pt_get F hP (pt_c3 _ hk0) (pt_l3 hk0) inX3 rfl 1 (by decide) kw_290 rfl rfl dX3_isAtEnd_21 ?_
  refine pt_get F hP (pt_c4 _ (pt_3s hk0)) (pt_l4 (pt_3s hk0)) inX4 rfl 3 (by decide) kw_278 rfl rfl dX3_isAtEnd_24 ?_
  refine lv_iand hx hb dX3_isAtEnd_27 ?_
  refine lv_if_eq (tgt := 35) hx hb dX3_isAtEnd_28 (by decide) (fun hc28 => ?_) (fun hc28 => ?_)
  · replace hw := hw.1 hc28
    refine lv_iconst (v := 0) hx hb dX3_isAtEnd_35 (by decide) ?_
    exact J36 0 M _ _ _ hw hP hS (lv_sub hl [] rfl)
  · replace hw := hw.2 hc28
    refine lv_iconst (v := 1) hx hb dX3_isAtEnd_31 (by decide) ?_
    refine lv_goto (tgt := 36) hx hb dX3_isAtEnd_32 (by decide) ?_
    exact J36 1 M _ _ _ hw hP hS (lv_sub hl [] rfl)
-- ===== X3_growOlder
def wjX3_growOlder_50 (k0 : Nat) (Q : pt_M → Prop) (R12 : Int32 → pt_M → Prop) (x1 : Int32) (M : pt_M) : Prop :=
  ∀ x1_50 : Int32, x1_50 = x1 + 1 → R12 x1_50 M
def lbX3_growOlder_12 (k0 : Nat) (Q : pt_M → Prop)  (R12 : Int32 → pt_M → Prop) (x1 : Int32) (M : pt_M) : Prop :=
  ((M 1 3) ≤ x1 → Q M) ∧ (¬ (M 1 3) ≤ x1 → wpX7_has (M (k0 + 1) 3) x1 M (fun (r_31 : Int32) (M_31 : pt_M) => (r_31 = 0 → wjX3_growOlder_50 k0 Q R12 x1 M_31) ∧ (¬ r_31 = 0 → vp_in x1 20 ∧ (vp_in x1 20 ∧ ∀ M_49 : pt_M, M_49 = pt_st M_31 ((k0 + 1) + 1) (Int32.toNatClampNeg x1) ((M_31 ((k0 + 1) + 1) (Int32.toNatClampNeg x1)) + 1) → wjX3_growOlder_50 k0 Q R12 x1 M_49))))
def lpX3_growOlder_12 (k0 : Nat) (Q : pt_M → Prop)  : Nat → Int32 → pt_M → Prop
  | 0 => fun _ _ => False
  | n + 1 => fun x1 M => lbX3_growOlder_12 k0 Q (lpX3_growOlder_12 k0 Q n) x1 M
def wpX3_growOlder (k0 : Nat) (M : pt_M) (Q : pt_M → Prop) : Prop :=
  ∀ M_7 : pt_M, M_7 = pt_st M k0 4 ((M k0 4) + 1) → ∃ n : Nat, lpX3_growOlder_12 k0 Q n 0 M_7
set_option maxHeartbeats 4000000 in
set_option maxRecDepth 100000 in
theorem mtX3_growOlder (l : Launch) (D : va_G) (cA : Nat → ClassId) (ad : Nat → Nat) (hI : pt_I ad) (sz : Nat) (k0 : Nat) (hk0 : pt_kd k0 = 3) (M : pt_M) (Q : pt_M → Prop) (hw : wpX3_growOlder k0 M Q) : Met l yX3_growOlder (Cond.code yX3_growOlder cX3_growOlder 2 none :: lw_all) ({ frames := 1, cells := 0, slots := 0, locals := 21 } : Room) (va_Pc [.ref (ad k0)] (pt_P D cA ad sz M)) (va_Qv Q (pt_B D cA ad) (pt_fr ad sz)) 0 0 (pt_fr ad sz) := by
  refine Met.ofW (cc := cX3_growOlder) (maxL := 2) (ret := none) (by decide) rfl ?_
  intro p e s m args below meth c s₁ B hml hv
  obtain ⟨rfl, hsz, hP, hK⟩ := hv
  have hx := B.exec
  have hb := B.bytes
  have hr := B.returns
  have hts0 := atoms_spec (ws := (Cond.code yX3_growOlder cX3_growOlder 2 none :: lw_all)) B.pre
  have hown : s.vm.findClass RX3 = some m.cls := findClass_of_methodNamed B.named
  have hlocks := B.notSynchronized
  subst hsz
  have F : pt_F p m c cX3_growOlder 2 s _ RX3 D cA := ⟨⟨hx, hb, hml, hown, fun w h => hts0 w (List.mem_cons_of_mem _ h)⟩, hK⟩
  have hD : ∀ M, va_D (pt_fr ad s.heap.size) (pt_W cA ad M) := pt_D hI (fun k h => Or.inl ⟨k, h, rfl⟩)
  have hS : va_S (pt_fr ad s.heap.size) s.heap s.heap [] := va_S.rf
  have hl := lv_entry ([.ref (ad k0)]) (n := 2) (Nat.le_of_ble_eq_true rfl)
  rw [lg_entry_eq]
  generalize (lg_sl ([.ref (ad k0)]) ++ List.replicate (2 - (lg_sl ([.ref (ad k0)])).length) Slot.unset).toArray = ls at hl ⊢
  have hl : lv_has ls 2 [(0, .ref (ad k0))] := hl
  have L12 : ∀ (n12 : Nat) (x1 : Int32) (M : pt_M) (H : Heap) (locs : List Loc) (ls : Array Slot), lpX3_growOlder_12 k0 Q n12 x1 M → va_P D pt_cl (pt_W cA ad M) H → va_S (pt_fr ad s.heap.size) s.heap H locs → lv_has ls 2 [(0, .ref (ad k0)), (1, .int x1)] → W p l e (headSpec (Cond.code yX3_growOlder cX3_growOlder 2 none :: lw_all) ({ frames := 1, cells := 0, slots := 0, locals := 21 } : Room)).room s m ([.ref (ad k0)] : List Value).toArray below meth c H locs 0 0 (MQ below (va_Qv Q (pt_B D cA ad) (pt_fr ad s.heap.size)) ([.ref (ad k0)] : List Value).toArray s 0 0 (pt_fr ad s.heap.size)) (F0 m 12 ls []) := by
    intro n12
    induction n12 with
    | zero => intro x1 M H locs ls hw; exact hw.elim
    | succ n12 ih12 =>
      have J50 : ∀ (x1 : Int32) (M : pt_M) (H : Heap) (locs : List Loc) (ls : Array Slot), wjX3_growOlder_50 k0 Q (lpX3_growOlder_12 k0 Q n12) x1 M → va_P D pt_cl (pt_W cA ad M) H → va_S (pt_fr ad s.heap.size) s.heap H locs → lv_has ls 2 [(0, .ref (ad k0)), (1, .int x1)] → W p l e (headSpec (Cond.code yX3_growOlder cX3_growOlder 2 none :: lw_all) ({ frames := 1, cells := 0, slots := 0, locals := 21 } : Room)).room s m ([.ref (ad k0)] : List Value).toArray below meth c H locs 0 0 (MQ below (va_Qv Q (pt_B D cA ad) (pt_fr ad s.heap.size)) ([.ref (ad k0)] : List Value).toArray s 0 0 (pt_fr ad s.heap.size)) (F0 m 50 ls []) := by
        intro x1 M H locs ls hw hP hS hl
        unfold wjX3_growOlder_50 at hw
        obtain ⟨x1_50, ex1_50⟩ : ∃ y : Int32, y = x1 + 1 := ⟨_, rfl⟩
        replace hw := hw x1_50 ex1_50
        refine lv_iinc (v := x1_50) (lv' := [(1, .int x1_50), (0, .ref (ad k0))]) hx hb dX3_growOlder_50 hl (k := 1) rfl (by rw [ex1_50]; rfl) (by decide) rfl (fun ls hl => ?_)
        refine lv_goto (tgt := 12) hx hb dX3_growOlder_53 (by decide) ?_
        exact ih12 x1_50 M _ _ _ hw hP hS (lv_sub hl [1, 0] rfl)
      intro x1 M H locs ls hw hP hS hl
      replace hw : lbX3_growOlder_12 k0 Q (lpX3_growOlder_12 k0 Q n12) x1 M := hw
      unfold lbX3_growOlder_12 at hw
      refine lv_iload_n hx hb dX3_growOlder_12 rfl (lv_at hl 1 rfl) ?_
      refine lv_aload_n hx hb dX3_growOlder_13 rfl (lv_at hl 0 rfl) ?_
      refine pt_get F hP (pt_c3 _ hk0) (pt_l3 hk0) inX3 rfl 0 (by decide) kw_289 rfl rfl dX3_growOlder_14 ?_
      refine pt_get F hP (pt_c1 _ pt_k1) (pt_l1 pt_k1) inX1 rfl 3 (by decide) kw_232 rfl rfl dX3_growOlder_17 ?_
      refine lv_icmp_ge (tgt := 56) hx hb dX3_growOlder_20 (by decide) (fun hc20 => ?_) (fun hc20 => ?_)
      · replace hw := hw.1 hc20
        exact W.vret hx hb hr (fun t ht hW => ⟨⟨M, rfl, hw, by unfold pt_B; rw [ht]; exact hP⟩, hS.F ht⟩) hS.2.2 dX3_growOlder_56
      · replace hw := hw.2 hc20
        refine lv_aload_n hx hb dX3_growOlder_23 rfl (lv_at hl 0 rfl) ?_
        refine pt_get F hP (pt_c3 _ hk0) (pt_l3 hk0) inX3 rfl 1 (by decide) kw_290 rfl rfl dX3_growOlder_24 ?_
        refine pt_get F hP (pt_c4 _ (pt_3s hk0)) (pt_l4 (pt_3s hk0)) inX4 rfl 3 (by decide) kw_278 rfl rfl dX3_growOlder_27 ?_
        refine lv_iload_n hx hb dX3_growOlder_30 rfl (lv_at hl 1 rfl) ?_
        refine pt_calli (pt_runSN (n := 2) (As := [.int (M (k0 + 1) 3), .int x1]) (rest := []) F hP (mtX7_has l D cA ad hI _ (M (k0 + 1) 3) x1 M _ hw) kw_449 kw_724 kw_52 kw_448 ⟨by decide, by decide, by decide +kernel⟩ ⟨rfl, rfl, Nat.le_of_ble_eq_true rfl, Nat.le_of_ble_eq_true rfl⟩ rfl hl.1 rfl (Nat.le_of_ble_eq_true rfl) dX3_growOlder_31 ⟨Nat.zero_le _, Nat.zero_le _⟩) hS (fun _ h => h) (fun r_31 M_31 H locs hw hP hS _ _ => ?_)
        refine lv_if_eq (tgt := 50) hx hb dX3_growOlder_34 (by decide) (fun hc34 => ?_) (fun hc34 => ?_)
        · replace hw := hw.1 hc34
          exact J50 x1 M_31 _ _ _ hw hP hS (lv_sub hl [0, 1] rfl)
        · replace hw := hw.2 hc34
          refine lv_aload_n hx hb dX3_growOlder_37 rfl (lv_at hl 0 rfl) ?_
          refine pt_get F hP (pt_c3 _ hk0) (pt_l3 hk0) inX3 rfl 1 (by decide) kw_290 rfl rfl dX3_growOlder_38 ?_
          refine pt_get F hP (pt_c4 _ (pt_3s hk0)) (pt_l4 (pt_3s hk0)) inX4 rfl 0 (by decide) kw_268 rfl rfl dX3_growOlder_41 ?_
          refine lv_iload_n hx hb dX3_growOlder_44 rfl (lv_at hl 1 rfl) ?_
          refine lv_dup2_11 hx hb dX3_growOlder_45 rfl rfl ?_
          have hv46 := hw.1
          replace hw := hw.2
          refine pt_iald F hP (pt_4a (pt_3s hk0)) hv46 dX3_growOlder_46 ?_
          refine lv_iconst (v := 1) hx hb dX3_growOlder_47 (by decide) ?_
          refine lv_iadd hx hb dX3_growOlder_48 ?_
          have hv49 := hw.1
          replace hw := hw.2
          refine pt_iast F hP hD hS (pt_4a (pt_3s hk0)) hv49 dX3_growOlder_49 (fun M_49 H locs eM_49 hP hS => ?_)
          replace hw := hw M_49 eM_49
          exact J50 x1 M_49 _ _ _ hw hP hS (lv_sub hl [0, 1] rfl)
  unfold wpX3_growOlder at hw
  refine lv_aload_n hx hb dX3_growOlder_0 rfl (lv_at hl 0 rfl) ?_
  refine lv_dup hx hb dX3_growOlder_1 rfl ?_
  refine pt_get F hP (pt_c3 _ hk0) (pt_l3 hk0) inX3 rfl 4 (by decide) kw_297 rfl rfl dX3_growOlder_2 ?_
  refine lv_iconst (v := 1) hx hb dX3_growOlder_5 (by decide) ?_
  refine lv_iadd hx hb dX3_growOlder_6 ?_
  refine pt_put F hP hD hS (pt_c3 _ hk0) (pt_l3 hk0) inX3 tyX3 tyX3_ok nmX3 rfl 4 (by decide) kw_297 rfl rfl rfl rfl (Nat.le_of_ble_eq_true rfl) (pt_c3 _ hk0) dX3_growOlder_7 (fun M_7 H locs eM_7 hP hS => ?_)
  replace hw := hw M_7 eM_7
  refine lv_iconst (v := 0) hx hb dX3_growOlder_10 (by decide) ?_
  refine lv_istore_n (lv' := [(1, .int 0), (0, .ref (ad k0))]) hx hb dX3_growOlder_11 rfl hl (by decide) rfl (fun ls hl => ?_)
  obtain ⟨n_, hw⟩ := hw
  exact L12 n_ 0 M_7 _ _ _ hw hP hS (lv_sub hl [1, 0] rfl)
-- ===== X3_raise
def wjX3_raise_45 (k0 : Nat) (p1 : Int32) (Q : pt_M → Prop)   (M : pt_M) : Prop :=
  Q M
def wpX3_raise (k0 : Nat) (p1 : Int32) (M : pt_M) (Q : pt_M → Prop) : Prop :=
  (8 ≤ (M k0 8) → ∀ M_42 : pt_M, M_42 = pt_st M k0 5 ((M k0 5) + 1) → wjX3_raise_45 k0 p1 Q M_42) ∧ (¬ 8 ≤ (M k0 8) → vp_in (M k0 8) 8 ∧ ∀ M_21 : pt_M, M_21 = pt_st M (k0 + 6) (Int32.toNatClampNeg (M k0 8)) p1 → ∀ M_29 : pt_M, M_29 = pt_st M_21 k0 8 ((M_21 k0 8) + 1) → wjX3_raise_45 k0 p1 Q M_29)
set_option maxHeartbeats 4000000 in
set_option maxRecDepth 100000 in
theorem mtX3_raise (l : Launch) (D : va_G) (cA : Nat → ClassId) (ad : Nat → Nat) (hI : pt_I ad) (sz : Nat) (k0 : Nat) (hk0 : pt_kd k0 = 3) (p1 : Int32) (M : pt_M) (Q : pt_M → Prop) (hw : wpX3_raise k0 p1 M Q) : Met l yX3_raise (Cond.code yX3_raise cX3_raise 2 none :: lw_all) ({ frames := 0, cells := 0, slots := 0, locals := 0 } : Room) (va_Pc [.ref (ad k0), .int p1] (pt_P D cA ad sz M)) (va_Qv Q (pt_B D cA ad) (pt_fr ad sz)) 0 0 (pt_fr ad sz) := by
  refine Met.ofW (cc := cX3_raise) (maxL := 2) (ret := none) (by decide) rfl ?_
  intro p e s m args below meth c s₁ B hml hv
  obtain ⟨rfl, hsz, hP, hK⟩ := hv
  have hx := B.exec
  have hb := B.bytes
  have hr := B.returns
  have hts0 := atoms_spec (ws := (Cond.code yX3_raise cX3_raise 2 none :: lw_all)) B.pre
  have hown : s.vm.findClass RX3 = some m.cls := findClass_of_methodNamed B.named
  have hlocks := B.notSynchronized
  subst hsz
  have F : pt_F p m c cX3_raise 2 s _ RX3 D cA := ⟨⟨hx, hb, hml, hown, fun w h => hts0 w (List.mem_cons_of_mem _ h)⟩, hK⟩
  have hD : ∀ M, va_D (pt_fr ad s.heap.size) (pt_W cA ad M) := pt_D hI (fun k h => Or.inl ⟨k, h, rfl⟩)
  have hS : va_S (pt_fr ad s.heap.size) s.heap s.heap [] := va_S.rf
  have hl := lv_entry ([.ref (ad k0), .int p1]) (n := 2) (Nat.le_of_ble_eq_true rfl)
  rw [lg_entry_eq]
  generalize (lg_sl ([.ref (ad k0), .int p1]) ++ List.replicate (2 - (lg_sl ([.ref (ad k0), .int p1])).length) Slot.unset).toArray = ls at hl ⊢
  have hl : lv_has ls 2 [(0, .ref (ad k0)), (1, .int p1)] := hl
  have J45 : ∀ (M : pt_M) (H : Heap) (locs : List Loc) (ls : Array Slot), wjX3_raise_45 k0 p1 Q M → va_P D pt_cl (pt_W cA ad M) H → va_S (pt_fr ad s.heap.size) s.heap H locs → lv_has ls 2 [] → W p l e (headSpec (Cond.code yX3_raise cX3_raise 2 none :: lw_all) ({ frames := 0, cells := 0, slots := 0, locals := 0 } : Room)).room s m ([.ref (ad k0), .int p1] : List Value).toArray below meth c H locs 0 0 (MQ below (va_Qv Q (pt_B D cA ad) (pt_fr ad s.heap.size)) ([.ref (ad k0), .int p1] : List Value).toArray s 0 0 (pt_fr ad s.heap.size)) (F0 m 45 ls []) := by
    intro M H locs ls hw hP hS hl
    unfold wjX3_raise_45 at hw
    exact W.vret hx hb hr (fun t ht hW => ⟨⟨M, rfl, hw, by unfold pt_B; rw [ht]; exact hP⟩, hS.F ht⟩) hS.2.2 dX3_raise_45
  unfold wpX3_raise at hw
  refine lv_aload_n hx hb dX3_raise_0 rfl (lv_at hl 0 rfl) ?_
  refine pt_get F hP (pt_c3 _ hk0) (pt_l3 hk0) inX3 rfl 8 (by decide) kw_304 rfl rfl dX3_raise_1 ?_
  refine lv_aload_n hx hb dX3_raise_4 rfl (lv_at hl 0 rfl) ?_
  refine pt_get F hP (pt_c3 _ hk0) (pt_l3 hk0) inX3 rfl 7 (by decide) kw_303 rfl rfl dX3_raise_5 ?_
  refine pt_alen (v := 8) F hP (pt_3q hk0) rfl dX3_raise_8 ?_
  refine lv_icmp_ge (tgt := 35) hx hb dX3_raise_9 (by decide) (fun hc9 => ?_) (fun hc9 => ?_)
  · replace hw := hw.1 hc9
    refine lv_aload_n hx hb dX3_raise_35 rfl (lv_at hl 0 rfl) ?_
    refine lv_dup hx hb dX3_raise_36 rfl ?_
    refine pt_get F hP (pt_c3 _ hk0) (pt_l3 hk0) inX3 rfl 5 (by decide) kw_299 rfl rfl dX3_raise_37 ?_
    refine lv_iconst (v := 1) hx hb dX3_raise_40 (by decide) ?_
    refine lv_iadd hx hb dX3_raise_41 ?_
    refine pt_put F hP hD hS (pt_c3 _ hk0) (pt_l3 hk0) inX3 tyX3 tyX3_ok nmX3 rfl 5 (by decide) kw_299 rfl rfl rfl rfl (Nat.le_of_ble_eq_true rfl) (pt_c3 _ hk0) dX3_raise_42 (fun M_42 H locs eM_42 hP hS => ?_)
    replace hw := hw M_42 eM_42
    exact J45 M_42 _ _ _ hw hP hS (lv_sub hl [] rfl)
  · replace hw := hw.2 hc9
    refine lv_aload_n hx hb dX3_raise_12 rfl (lv_at hl 0 rfl) ?_
    refine pt_get F hP (pt_c3 _ hk0) (pt_l3 hk0) inX3 rfl 7 (by decide) kw_303 rfl rfl dX3_raise_13 ?_
    refine lv_aload_n hx hb dX3_raise_16 rfl (lv_at hl 0 rfl) ?_
    refine pt_get F hP (pt_c3 _ hk0) (pt_l3 hk0) inX3 rfl 8 (by decide) kw_304 rfl rfl dX3_raise_17 ?_
    refine lv_iload_n hx hb dX3_raise_20 rfl (lv_at hl 1 rfl) ?_
    have hv21 := hw.1
    replace hw := hw.2
    refine pt_iast F hP hD hS (pt_3q hk0) hv21 dX3_raise_21 (fun M_21 H locs eM_21 hP hS => ?_)
    replace hw := hw M_21 eM_21
    refine lv_aload_n hx hb dX3_raise_22 rfl (lv_at hl 0 rfl) ?_
    refine lv_dup hx hb dX3_raise_23 rfl ?_
    refine pt_get F hP (pt_c3 _ hk0) (pt_l3 hk0) inX3 rfl 8 (by decide) kw_304 rfl rfl dX3_raise_24 ?_
    refine lv_iconst (v := 1) hx hb dX3_raise_27 (by decide) ?_
    refine lv_iadd hx hb dX3_raise_28 ?_
    refine pt_put F hP hD hS (pt_c3 _ hk0) (pt_l3 hk0) inX3 tyX3 tyX3_ok nmX3 rfl 8 (by decide) kw_304 rfl rfl rfl rfl (Nat.le_of_ble_eq_true rfl) (pt_c3 _ hk0) dX3_raise_29 (fun M_29 H locs eM_29 hP hS => ?_)
    replace hw := hw M_29 eM_29
    refine lv_goto (tgt := 45) hx hb dX3_raise_32 (by decide) ?_
    exact J45 M_29 _ _ _ hw hP hS (lv_sub hl [] rfl)
-- ===== X3_loseQueue
def wpX3_loseQueue (k0 : Nat) (M : pt_M) (Q : pt_M → Prop) : Prop :=
  ∀ M_10 : pt_M, M_10 = pt_st M k0 5 ((M k0 5) + (M k0 8)) → ∀ M_15 : pt_M, M_15 = pt_st M_10 k0 8 0 → Q M_15
set_option maxHeartbeats 4000000 in
set_option maxRecDepth 100000 in
theorem mtX3_loseQueue (l : Launch) (D : va_G) (cA : Nat → ClassId) (ad : Nat → Nat) (hI : pt_I ad) (sz : Nat) (k0 : Nat) (hk0 : pt_kd k0 = 3) (M : pt_M) (Q : pt_M → Prop) (hw : wpX3_loseQueue k0 M Q) : Met l yX3_loseQueue (Cond.code yX3_loseQueue cX3_loseQueue 1 none :: lw_all) ({ frames := 0, cells := 0, slots := 0, locals := 0 } : Room) (va_Pc [.ref (ad k0)] (pt_P D cA ad sz M)) (va_Qv Q (pt_B D cA ad) (pt_fr ad sz)) 0 0 (pt_fr ad sz) := by
  refine Met.ofW (cc := cX3_loseQueue) (maxL := 1) (ret := none) (by decide) rfl ?_
  intro p e s m args below meth c s₁ B hml hv
  obtain ⟨rfl, hsz, hP, hK⟩ := hv
  have hx := B.exec
  have hb := B.bytes
  have hr := B.returns
  have hts0 := atoms_spec (ws := (Cond.code yX3_loseQueue cX3_loseQueue 1 none :: lw_all)) B.pre
  have hown : s.vm.findClass RX3 = some m.cls := findClass_of_methodNamed B.named
  have hlocks := B.notSynchronized
  subst hsz
  have F : pt_F p m c cX3_loseQueue 1 s _ RX3 D cA := ⟨⟨hx, hb, hml, hown, fun w h => hts0 w (List.mem_cons_of_mem _ h)⟩, hK⟩
  have hD : ∀ M, va_D (pt_fr ad s.heap.size) (pt_W cA ad M) := pt_D hI (fun k h => Or.inl ⟨k, h, rfl⟩)
  have hS : va_S (pt_fr ad s.heap.size) s.heap s.heap [] := va_S.rf
  have hl := lv_entry ([.ref (ad k0)]) (n := 1) (Nat.le_of_ble_eq_true rfl)
  rw [lg_entry_eq]
  generalize (lg_sl ([.ref (ad k0)]) ++ List.replicate (1 - (lg_sl ([.ref (ad k0)])).length) Slot.unset).toArray = ls at hl ⊢
  have hl : lv_has ls 1 [(0, .ref (ad k0))] := hl
  unfold wpX3_loseQueue at hw
  refine lv_aload_n hx hb dX3_loseQueue_0 rfl (lv_at hl 0 rfl) ?_
  refine lv_dup hx hb dX3_loseQueue_1 rfl ?_
  refine pt_get F hP (pt_c3 _ hk0) (pt_l3 hk0) inX3 rfl 5 (by decide) kw_299 rfl rfl dX3_loseQueue_2 ?_
  refine lv_aload_n hx hb dX3_loseQueue_5 rfl (lv_at hl 0 rfl) ?_
  refine pt_get F hP (pt_c3 _ hk0) (pt_l3 hk0) inX3 rfl 8 (by decide) kw_304 rfl rfl dX3_loseQueue_6 ?_
  refine lv_iadd hx hb dX3_loseQueue_9 ?_
  refine pt_put F hP hD hS (pt_c3 _ hk0) (pt_l3 hk0) inX3 tyX3 tyX3_ok nmX3 rfl 5 (by decide) kw_299 rfl rfl rfl rfl (Nat.le_of_ble_eq_true rfl) (pt_c3 _ hk0) dX3_loseQueue_10 (fun M_10 H locs eM_10 hP hS => ?_)
  replace hw := hw M_10 eM_10
  refine lv_aload_n hx hb dX3_loseQueue_13 rfl (lv_at hl 0 rfl) ?_
  refine lv_iconst (v := 0) hx hb dX3_loseQueue_14 (by decide) ?_
  refine pt_put F hP hD hS (pt_c3 _ hk0) (pt_l3 hk0) inX3 tyX3 tyX3_ok nmX3 rfl 8 (by decide) kw_304 rfl rfl rfl rfl (Nat.le_of_ble_eq_true rfl) (pt_c3 _ hk0) dX3_loseQueue_15 (fun M_15 H locs eM_15 hP hS => ?_)
  replace hw := hw M_15 eM_15
  exact W.vret hx hb hr (fun t ht hW => ⟨⟨M_15, rfl, hw, by unfold pt_B; rw [ht]; exact hP⟩, hS.F ht⟩) hS.2.2 dX3_loseQueue_18
-- ===== X3_nextEvent
def lbX3_nextEvent_9 (k0 : Nat) (Q : Int32 → pt_M → Prop)  (R9 : Int32 → Int32 → pt_M → Prop) (x1 : Int32) (x2 : Int32) (M : pt_M) : Prop :=
  (8 ≤ x2 → ∀ M_45 : pt_M, M_45 = pt_st M k0 8 ((M k0 8) - 1) → Q x1 M_45) ∧ (¬ 8 ≤ x2 → vp_in x2 8 ∧ (vp_in (x2 - 1) 8 ∧ ∀ M_31 : pt_M, M_31 = pt_st M (k0 + 6) (Int32.toNatClampNeg (x2 - 1)) (M (k0 + 6) (Int32.toNatClampNeg x2)) → ∀ x2_32 : Int32, x2_32 = x2 + 1 → R9 x1 x2_32 M_31))
def lpX3_nextEvent_9 (k0 : Nat) (Q : Int32 → pt_M → Prop)  : Nat → Int32 → Int32 → pt_M → Prop
  | 0 => fun _ _ _ => False
  | n + 1 => fun x1 x2 M => lbX3_nextEvent_9 k0 Q (lpX3_nextEvent_9 k0 Q n) x1 x2 M
def wpX3_nextEvent (k0 : Nat) (M : pt_M) (Q : Int32 → pt_M → Prop) : Prop :=
  vp_in 0 8 ∧ (∀ x1_6 : Int32, x1_6 = (M (k0 + 6) (Int32.toNatClampNeg 0)) → ∃ n : Nat, lpX3_nextEvent_9 k0 Q n x1_6 1 M)
set_option maxHeartbeats 4000000 in
set_option maxRecDepth 100000 in
theorem mtX3_nextEvent (l : Launch) (D : va_G) (cA : Nat → ClassId) (ad : Nat → Nat) (hI : pt_I ad) (sz : Nat) (k0 : Nat) (hk0 : pt_kd k0 = 3) (M : pt_M) (Q : Int32 → pt_M → Prop) (hw : wpX3_nextEvent k0 M Q) : Met l yX3_nextEvent (Cond.code yX3_nextEvent cX3_nextEvent 3 (some .int) :: lw_all) ({ frames := 0, cells := 0, slots := 0, locals := 0 } : Room) (va_Pc [.ref (ad k0)] (pt_P D cA ad sz M)) (va_Qi Q (pt_B D cA ad) (pt_fr ad sz)) 0 0 (pt_fr ad sz) := by
  refine Met.ofW (cc := cX3_nextEvent) (maxL := 3) (ret := (some .int)) (by decide) rfl ?_
  intro p e s m args below meth c s₁ B hml hv
  obtain ⟨rfl, hsz, hP, hK⟩ := hv
  have hx := B.exec
  have hb := B.bytes
  have hr := B.returns
  have hts0 := atoms_spec (ws := (Cond.code yX3_nextEvent cX3_nextEvent 3 (some .int) :: lw_all)) B.pre
  have hown : s.vm.findClass RX3 = some m.cls := findClass_of_methodNamed B.named
  have hlocks := B.notSynchronized
  subst hsz
  have F : pt_F p m c cX3_nextEvent 3 s _ RX3 D cA := ⟨⟨hx, hb, hml, hown, fun w h => hts0 w (List.mem_cons_of_mem _ h)⟩, hK⟩
  have hD : ∀ M, va_D (pt_fr ad s.heap.size) (pt_W cA ad M) := pt_D hI (fun k h => Or.inl ⟨k, h, rfl⟩)
  have hS : va_S (pt_fr ad s.heap.size) s.heap s.heap [] := va_S.rf
  have hl := lv_entry ([.ref (ad k0)]) (n := 3) (Nat.le_of_ble_eq_true rfl)
  rw [lg_entry_eq]
  generalize (lg_sl ([.ref (ad k0)]) ++ List.replicate (3 - (lg_sl ([.ref (ad k0)])).length) Slot.unset).toArray = ls at hl ⊢
  have hl : lv_has ls 3 [(0, .ref (ad k0))] := hl
  have L9 : ∀ (n9 : Nat) (x1 : Int32) (x2 : Int32) (M : pt_M) (H : Heap) (locs : List Loc) (ls : Array Slot), lpX3_nextEvent_9 k0 Q n9 x1 x2 M → va_P D pt_cl (pt_W cA ad M) H → va_S (pt_fr ad s.heap.size) s.heap H locs → lv_has ls 3 [(0, .ref (ad k0)), (1, .int x1), (2, .int x2)] → W p l e (headSpec (Cond.code yX3_nextEvent cX3_nextEvent 3 (some .int) :: lw_all) ({ frames := 0, cells := 0, slots := 0, locals := 0 } : Room)).room s m ([.ref (ad k0)] : List Value).toArray below meth c H locs 0 0 (MQ below (va_Qi Q (pt_B D cA ad) (pt_fr ad s.heap.size)) ([.ref (ad k0)] : List Value).toArray s 0 0 (pt_fr ad s.heap.size)) (F0 m 9 ls []) := by
    intro n9
    induction n9 with
    | zero => intro x1 x2 M H locs ls hw; exact hw.elim
    | succ n9 ih9 =>
      intro x1 x2 M H locs ls hw hP hS hl
      replace hw : lbX3_nextEvent_9 k0 Q (lpX3_nextEvent_9 k0 Q n9) x1 x2 M := hw
      unfold lbX3_nextEvent_9 at hw
      refine lv_iload_n hx hb dX3_nextEvent_9 rfl (lv_at hl 2 rfl) ?_
      refine lv_aload_n hx hb dX3_nextEvent_10 rfl (lv_at hl 0 rfl) ?_
      refine pt_get F hP (pt_c3 _ hk0) (pt_l3 hk0) inX3 rfl 7 (by decide) kw_303 rfl rfl dX3_nextEvent_11 ?_
      refine pt_alen (v := 8) F hP (pt_3q hk0) rfl dX3_nextEvent_14 ?_
      refine lv_icmp_ge (tgt := 38) hx hb dX3_nextEvent_15 (by decide) (fun hc15 => ?_) (fun hc15 => ?_)
      · replace hw := hw.1 hc15
        refine lv_aload_n hx hb dX3_nextEvent_38 rfl (lv_at hl 0 rfl) ?_
        refine lv_dup hx hb dX3_nextEvent_39 rfl ?_
        refine pt_get F hP (pt_c3 _ hk0) (pt_l3 hk0) inX3 rfl 8 (by decide) kw_304 rfl rfl dX3_nextEvent_40 ?_
        refine lv_iconst (v := 1) hx hb dX3_nextEvent_43 (by decide) ?_
        refine lv_isub hx hb dX3_nextEvent_44 ?_
        refine pt_put F hP hD hS (pt_c3 _ hk0) (pt_l3 hk0) inX3 tyX3 tyX3_ok nmX3 rfl 8 (by decide) kw_304 rfl rfl rfl rfl (Nat.le_of_ble_eq_true rfl) (pt_c3 _ hk0) dX3_nextEvent_45 (fun M_45 H locs eM_45 hP hS => ?_)
        replace hw := hw M_45 eM_45
        refine lv_iload_n hx hb dX3_nextEvent_48 rfl (lv_at hl 1 rfl) ?_
        exact W.iret (v := x1) hx hb hr (fun t ht hW => ⟨⟨x1, M_45, rfl, hw, by unfold pt_B; rw [ht]; exact hP⟩, hS.F ht⟩) hS.2.2 dX3_nextEvent_49
      · replace hw := hw.2 hc15
        refine lv_aload_n hx hb dX3_nextEvent_18 rfl (lv_at hl 0 rfl) ?_
        refine pt_get F hP (pt_c3 _ hk0) (pt_l3 hk0) inX3 rfl 7 (by decide) kw_303 rfl rfl dX3_nextEvent_19 ?_
        refine lv_iload_n hx hb dX3_nextEvent_22 rfl (lv_at hl 2 rfl) ?_
        refine lv_iconst (v := 1) hx hb dX3_nextEvent_23 (by decide) ?_
        refine lv_isub hx hb dX3_nextEvent_24 ?_
        refine lv_aload_n hx hb dX3_nextEvent_25 rfl (lv_at hl 0 rfl) ?_
        refine pt_get F hP (pt_c3 _ hk0) (pt_l3 hk0) inX3 rfl 7 (by decide) kw_303 rfl rfl dX3_nextEvent_26 ?_
        refine lv_iload_n hx hb dX3_nextEvent_29 rfl (lv_at hl 2 rfl) ?_
        have hv30 := hw.1
        replace hw := hw.2
        refine pt_iald F hP (pt_3q hk0) hv30 dX3_nextEvent_30 ?_
        have hv31 := hw.1
        replace hw := hw.2
        refine pt_iast F hP hD hS (pt_3q hk0) hv31 dX3_nextEvent_31 (fun M_31 H locs eM_31 hP hS => ?_)
        replace hw := hw M_31 eM_31
        obtain ⟨x2_32, ex2_32⟩ : ∃ y : Int32, y = x2 + 1 := ⟨_, rfl⟩
        replace hw := hw x2_32 ex2_32
        refine lv_iinc (v := x2_32) (lv' := [(2, .int x2_32), (0, .ref (ad k0)), (1, .int x1)]) hx hb dX3_nextEvent_32 hl (k := 2) rfl (by rw [ex2_32]; rfl) (by decide) rfl (fun ls hl => ?_)
        refine lv_goto (tgt := 9) hx hb dX3_nextEvent_35 (by decide) ?_
        exact ih9 x1 x2_32 M_31 _ _ _ hw hP hS (lv_sub hl [1, 2, 0] rfl)
  unfold wpX3_nextEvent at hw
  refine lv_aload_n hx hb dX3_nextEvent_0 rfl (lv_at hl 0 rfl) ?_
  refine pt_get F hP (pt_c3 _ hk0) (pt_l3 hk0) inX3 rfl 7 (by decide) kw_303 rfl rfl dX3_nextEvent_1 ?_
  refine lv_iconst (v := 0) hx hb dX3_nextEvent_4 (by decide) ?_
  have hv5 := hw.1
  replace hw := hw.2
  refine pt_iald F hP (pt_3q hk0) hv5 dX3_nextEvent_5 ?_
  refine lv_topi (fun x1_6 ex1_6 => ?_)
  replace hw := hw x1_6 ex1_6
  refine lv_istore_n (lv' := [(1, .int x1_6), (0, .ref (ad k0))]) hx hb dX3_nextEvent_6 rfl hl (by decide) rfl (fun ls hl => ?_)
  refine lv_iconst (v := 1) hx hb dX3_nextEvent_7 (by decide) ?_
  refine lv_istore_n (lv' := [(2, .int 1), (1, .int x1_6), (0, .ref (ad k0))]) hx hb dX3_nextEvent_8 rfl hl (by decide) rfl (fun ls hl => ?_)
  obtain ⟨n_, hw⟩ := hw
  exact L9 n_ x1_6 1 M _ _ _ hw hP hS (lv_sub hl [2, 1, 0] rfl)
end
section
-- ===== X3_isOpen
def wjX3_isOpen_88 (k0 : Nat) (k1 : Nat) (p2 : Int32) (Q : Int32 → pt_M → Prop)  (xs0 : Int32) (M : pt_M) : Prop :=
  pt_zb xs0 ∧ Q xs0 M
def wjX3_isOpen_31 (k0 : Nat) (k1 : Nat) (p2 : Int32) (Q : Int32 → pt_M → Prop)   (M : pt_M) : Prop :=
  Q 0 M
def wpX3_isOpen (k0 : Nat) (k1 : Nat) (p2 : Int32) (M : pt_M) (Q : Int32 → pt_M → Prop) : Prop :=
  wpX7_has (M (k0 + 1) 3) (M k1 1) M (fun (r_11 : Int32) (M_11 : pt_M) => (r_11 = 0 → wjX3_isOpen_31 k0 k1 p2 Q M_11) ∧ (¬ r_11 = 0 → wpX6_isAllowed k1 ((k0 + 1) + 3) M_11 (fun (r_25 : Int32) (M_25 : pt_M) => (¬ r_25 = 0 → ((M_25 k1 2) = 1 → vp_in (M_25 k1 1) 20 ∧ ((¬ (M_25 ((k0 + 1) + 1) (Int32.toNatClampNeg (M_25 k1 1))) = (M_25 k1 3) → wjX3_isOpen_88 k0 k1 p2 Q 0 M_25) ∧ ((M_25 ((k0 + 1) + 1) (Int32.toNatClampNeg (M_25 k1 1))) = (M_25 k1 3) → wjX3_isOpen_88 k0 k1 p2 Q 1 M_25))) ∧ (¬ (M_25 k1 2) = 1 → ((M_25 k1 2) = 2 → wpX7_has p2 (M_25 k1 1) M_25 (fun (r_94 : Int32) (M_94 : pt_M) => pt_zb r_94 ∧ Q r_94 M_94)) ∧ (¬ (M_25 k1 2) = 2 → Q 1 M_25))) ∧ (r_25 = 0 → wjX3_isOpen_31 k0 k1 p2 Q M_25))))
set_option maxHeartbeats 4000000 in
set_option maxRecDepth 100000 in
theorem mtX3_isOpen (l : Launch) (D : va_G) (cA : Nat → ClassId) (ad : Nat → Nat) (hI : pt_I ad) (sz : Nat) (k0 : Nat) (hk0 : pt_kd k0 = 3) (k1 : Nat) (hk1 : pt_kd k1 = 6) (p2 : Int32) (M : pt_M) (Q : Int32 → pt_M → Prop) (hw : wpX3_isOpen k0 k1 p2 M Q) : Met l yX3_isOpen (Cond.code yX3_isOpen cX3_isOpen 3 (some .boolean) :: lw_all) ({ frames := 1, cells := 0, slots := 0, locals := 21 } : Room) (va_Pc [.ref (ad k0), .ref (ad k1), .int p2] (pt_P D cA ad sz M)) (va_Qi Q (pt_B D cA ad) (pt_fr ad sz)) 0 0 (pt_fr ad sz) := by
  refine Met.ofW (cc := cX3_isOpen) (maxL := 3) (ret := (some .boolean)) (by decide) rfl ?_
  intro p e s m args below meth c s₁ B hml hv
  obtain ⟨rfl, hsz, hP, hK⟩ := hv
  have hx := B.exec
  have hb := B.bytes
  have hr := B.returns
  have hts0 := atoms_spec (ws := (Cond.code yX3_isOpen cX3_isOpen 3 (some .boolean) :: lw_all)) B.pre
  have hown : s.vm.findClass RX3 = some m.cls := findClass_of_methodNamed B.named
  have hlocks := B.notSynchronized
  subst hsz
  have F : pt_F p m c cX3_isOpen 3 s _ RX3 D cA := ⟨⟨hx, hb, hml, hown, fun w h => hts0 w (List.mem_cons_of_mem _ h)⟩, hK⟩
  have hD : ∀ M, va_D (pt_fr ad s.heap.size) (pt_W cA ad M) := pt_D hI (fun k h => Or.inl ⟨k, h, rfl⟩)
  have hS : va_S (pt_fr ad s.heap.size) s.heap s.heap [] := va_S.rf
  have hl := lv_entry ([.ref (ad k0), .ref (ad k1), .int p2]) (n := 3) (Nat.le_of_ble_eq_true rfl)
  rw [lg_entry_eq]
  generalize (lg_sl ([.ref (ad k0), .ref (ad k1), .int p2]) ++ List.replicate (3 - (lg_sl ([.ref (ad k0), .ref (ad k1), .int p2])).length) Slot.unset).toArray = ls at hl ⊢
  have hl : lv_has ls 3 [(0, .ref (ad k0)), (1, .ref (ad k1)), (2, .int p2)] := hl
  have J88 : ∀ (xs0 : Int32) (M : pt_M) (H : Heap) (locs : List Loc) (ls : Array Slot), wjX3_isOpen_88 k0 k1 p2 Q xs0 M → va_P D pt_cl (pt_W cA ad M) H → va_S (pt_fr ad s.heap.size) s.heap H locs → lv_has ls 3 [] → W p l e (headSpec (Cond.code yX3_isOpen cX3_isOpen 3 (some .boolean) :: lw_all) ({ frames := 1, cells := 0, slots := 0, locals := 21 } : Room)).room s m ([.ref (ad k0), .ref (ad k1), .int p2] : List Value).toArray below meth c H locs 0 0 (MQ below (va_Qi Q (pt_B D cA ad) (pt_fr ad s.heap.size)) ([.ref (ad k0), .ref (ad k1), .int p2] : List Value).toArray s 0 0 (pt_fr ad s.heap.size)) (F0 m 88 ls [.int xs0]) := by
    intro xs0 M H locs ls hw hP hS hl
    unfold wjX3_isOpen_88 at hw
    exact W.zret (v := xs0) (ty := .boolean) hx hb hr (pt_zb_n hw.1) (fun t ht hW => ⟨⟨xs0, M, rfl, hw.2, by unfold pt_B; rw [ht]; exact hP⟩, hS.F ht⟩) hS.2.2 dX3_isOpen_88
  have J31 : ∀ (M : pt_M) (H : Heap) (locs : List Loc) (ls : Array Slot), wjX3_isOpen_31 k0 k1 p2 Q M → va_P D pt_cl (pt_W cA ad M) H → va_S (pt_fr ad s.heap.size) s.heap H locs → lv_has ls 3 [] → W p l e (headSpec (Cond.code yX3_isOpen cX3_isOpen 3 (some .boolean) :: lw_all) ({ frames := 1, cells := 0, slots := 0, locals := 21 } : Room)).room s m ([.ref (ad k0), .ref (ad k1), .int p2] : List Value).toArray below meth c H locs 0 0 (MQ below (va_Qi Q (pt_B D cA ad) (pt_fr ad s.heap.size)) ([.ref (ad k0), .ref (ad k1), .int p2] : List Value).toArray s 0 0 (pt_fr ad s.heap.size)) (F0 m 31 ls []) := by
    intro M H locs ls hw hP hS hl
    unfold wjX3_isOpen_31 at hw
    refine lv_iconst (v := 0) hx hb dX3_isOpen_31 (by decide) ?_
    exact W.zret (v := 0) (ty := .boolean) hx hb hr rfl (fun t ht hW => ⟨⟨0, M, rfl, hw, by unfold pt_B; rw [ht]; exact hP⟩, hS.F ht⟩) hS.2.2 dX3_isOpen_32
  unfold wpX3_isOpen at hw
  refine lv_aload_n hx hb dX3_isOpen_0 rfl (lv_at hl 0 rfl) ?_
  refine pt_get F hP (pt_c3 _ hk0) (pt_l3 hk0) inX3 rfl 1 (by decide) kw_290 rfl rfl dX3_isOpen_1 ?_
  refine pt_get F hP (pt_c4 _ (pt_3s hk0)) (pt_l4 (pt_3s hk0)) inX4 rfl 3 (by decide) kw_278 rfl rfl dX3_isOpen_4 ?_
  refine lv_aload_n hx hb dX3_isOpen_7 rfl (lv_at hl 1 rfl) ?_
  refine pt_get F hP (pt_c6 _ hk1) (pt_l6 hk1) inX6 rfl 1 (by decide) kw_186 rfl rfl dX3_isOpen_8 ?_
  refine pt_calli (pt_runSN (n := 2) (As := [.int (M (k0 + 1) 3), .int (M k1 1)]) (rest := []) F hP (mtX7_has l D cA ad hI _ (M (k0 + 1) 3) (M k1 1) M _ hw) kw_449 kw_724 kw_52 kw_448 ⟨by decide, by decide, by decide +kernel⟩ ⟨rfl, rfl, Nat.le_of_ble_eq_true rfl, Nat.le_of_ble_eq_true rfl⟩ rfl hl.1 rfl (Nat.le_of_ble_eq_true rfl) dX3_isOpen_11 ⟨Nat.zero_le _, Nat.zero_le _⟩) hS (fun _ h => h) (fun r_11 M_11 H locs hw hP hS _ _ => ?_)
  refine lv_if_eq (tgt := 31) hx hb dX3_isOpen_14 (by decide) (fun hc14 => ?_) (fun hc14 => ?_)
  · replace hw := hw.1 hc14
    exact J31 M_11 _ _ _ hw hP hS (lv_sub hl [] rfl)
  · replace hw := hw.2 hc14
    refine lv_aload_n hx hb dX3_isOpen_17 rfl (lv_at hl 1 rfl) ?_
    refine lv_aload_n hx hb dX3_isOpen_18 rfl (lv_at hl 0 rfl) ?_
    refine pt_get F hP (pt_c3 _ hk0) (pt_l3 hk0) inX3 rfl 1 (by decide) kw_290 rfl rfl dX3_isOpen_19 ?_
    refine pt_get F hP (pt_c4 _ (pt_3s hk0)) (pt_l4 (pt_3s hk0)) inX4 rfl 2 (by decide) kw_274 rfl rfl dX3_isOpen_22 ?_
    refine pt_calli (pt_runV (n := 1) (As := [.ref (ad ((k0 + 1) + 3))]) (rest := []) F hP (pt_c6 _ hk1) (pt_l6 hk1) rfl (mtX6_isAllowed l D cA ad hI _ k1 hk1 ((k0 + 1) + 3) (pt_4v (pt_3s hk0)) M_11 _ hw) kw_773 kw_770 kw_56 kw_771 kw_772 ⟨by decide, by decide, by decide +kernel⟩ ⟨rfl, rfl, Nat.le_of_ble_eq_true rfl, Nat.le_of_ble_eq_true rfl⟩ rfl hl.1 rfl (Nat.le_of_ble_eq_true rfl) dX3_isOpen_25 ⟨Nat.zero_le _, Nat.zero_le _⟩) hS (fun _ h => h) (fun r_25 M_25 H locs hw hP hS _ _ => ?_)
    refine lv_if_ne (tgt := 33) hx hb dX3_isOpen_28 (by decide) (fun hc28 => ?_) (fun hc28 => ?_)
    · replace hw := hw.1 hc28
      refine lv_aload_n hx hb dX3_isOpen_33 rfl (lv_at hl 1 rfl) ?_
      refine pt_get F hP (pt_c6 _ hk1) (pt_l6 hk1) inX6 rfl 2 (by decide) kw_188 rfl rfl dX3_isOpen_34 ?_
      by_cases hn37_0 : (M_25 k1 2) = 1
      · replace hw := hw.1 hn37_0
        refine lv_lookup (off := 27) (tgt := 64) hx hb dX3_isOpen_37 (by decide) (by rw [hn37_0]; rfl) (by decide) ?_
        refine lv_aload_n hx hb dX3_isOpen_64 rfl (lv_at hl 0 rfl) ?_
        refine pt_get F hP (pt_c3 _ hk0) (pt_l3 hk0) inX3 rfl 1 (by decide) kw_290 rfl rfl dX3_isOpen_65 ?_
        refine pt_get F hP (pt_c4 _ (pt_3s hk0)) (pt_l4 (pt_3s hk0)) inX4 rfl 0 (by decide) kw_268 rfl rfl dX3_isOpen_68 ?_
        refine lv_aload_n hx hb dX3_isOpen_71 rfl (lv_at hl 1 rfl) ?_
        refine pt_get F hP (pt_c6 _ hk1) (pt_l6 hk1) inX6 rfl 1 (by decide) kw_186 rfl rfl dX3_isOpen_72 ?_
        have hv75 := hw.1
        replace hw := hw.2
        refine pt_iald F hP (pt_4a (pt_3s hk0)) hv75 dX3_isOpen_75 ?_
        refine lv_aload_n hx hb dX3_isOpen_76 rfl (lv_at hl 1 rfl) ?_
        refine pt_get F hP (pt_c6 _ hk1) (pt_l6 hk1) inX6 rfl 3 (by decide) kw_190 rfl rfl dX3_isOpen_77 ?_
        refine lv_icmp_ne (tgt := 87) hx hb dX3_isOpen_80 (by decide) (fun hc80 => ?_) (fun hc80 => ?_)
        · replace hw := hw.1 hc80
          refine lv_iconst (v := 0) hx hb dX3_isOpen_87 (by decide) ?_
          exact J88 0 M_25 _ _ _ hw hP hS (lv_sub hl [] rfl)
        · replace hw := hw.2 hc80
          refine lv_iconst (v := 1) hx hb dX3_isOpen_83 (by decide) ?_
          refine lv_goto (tgt := 88) hx hb dX3_isOpen_84 (by decide) ?_
          exact J88 1 M_25 _ _ _ hw hP hS (lv_sub hl [] rfl)
      · replace hw := hw.2 hn37_0
        by_cases hn37_1 : (M_25 k1 2) = 2
        · replace hw := hw.1 hn37_1
          refine lv_lookup (off := 52) (tgt := 89) hx hb dX3_isOpen_37 (by decide) (by rw [hn37_1]; rfl) (by decide) ?_
          refine lv_iload_n hx hb dX3_isOpen_89 rfl (lv_at hl 2 rfl) ?_
          refine lv_aload_n hx hb dX3_isOpen_90 rfl (lv_at hl 1 rfl) ?_
          refine pt_get F hP (pt_c6 _ hk1) (pt_l6 hk1) inX6 rfl 1 (by decide) kw_186 rfl rfl dX3_isOpen_91 ?_
          refine pt_calli (pt_runSN (n := 2) (As := [.int p2, .int (M_25 k1 1)]) (rest := []) F hP (mtX7_has l D cA ad hI _ p2 (M_25 k1 1) M_25 _ hw) kw_449 kw_724 kw_52 kw_448 ⟨by decide, by decide, by decide +kernel⟩ ⟨rfl, rfl, Nat.le_of_ble_eq_true rfl, Nat.le_of_ble_eq_true rfl⟩ rfl hl.1 rfl (Nat.le_of_ble_eq_true rfl) dX3_isOpen_94 ⟨Nat.zero_le _, Nat.zero_le _⟩) hS (fun _ h => h) (fun r_94 M_94 H locs hw hP hS _ _ => ?_)
          exact W.zret (v := r_94) (ty := .boolean) hx hb hr (pt_zb_n hw.1) (fun t ht hW => ⟨⟨r_94, M_94, rfl, hw.2, by unfold pt_B; rw [ht]; exact hP⟩, hS.F ht⟩) hS.2.2 dX3_isOpen_97
        · replace hw := hw.2 hn37_1
          refine lv_lookup (off := 61) (tgt := 98) hx hb dX3_isOpen_37 (by decide) (pt_look1_2 hn37_0 hn37_1) (by decide) ?_
          refine lv_iconst (v := 1) hx hb dX3_isOpen_98 (by decide) ?_
          exact W.zret (v := 1) (ty := .boolean) hx hb hr rfl (fun t ht hW => ⟨⟨1, M_25, rfl, hw, by unfold pt_B; rw [ht]; exact hP⟩, hS.F ht⟩) hS.2.2 dX3_isOpen_99
    · replace hw := hw.2 hc28
      exact J31 M_25 _ _ _ hw hP hS (lv_sub hl [] rfl)
-- ===== X3_openBy
def wjX3_openBy_86 (k0 : Nat) (p1 : Int32) (Q : Int32 → pt_M → Prop) (R37 : Int32 → Int32 → Int32 → Int32 → pt_M → Prop) (x2 : Int32) (x3 : Int32) (x4 : Int32) (x5 : Int32) (M : pt_M) : Prop :=
  ∀ x5_86 : Int32, x5_86 = x5 + 1 → R37 x2 x3 x4 x5_86 M
def lbX3_openBy_37 (k0 : Nat) (p1 : Int32) (Q : Int32 → pt_M → Prop)  (R37 : Int32 → Int32 → Int32 → Int32 → pt_M → Prop) (x2 : Int32) (x3 : Int32) (x4 : Int32) (x5 : Int32) (M : pt_M) : Prop :=
  ((M 1 4) ≤ x5 → Q x4 M) ∧ (¬ (M 1 4) ≤ x5 → wpX7_has x2 x5 M (fun (r_52 : Int32) (M_52 : pt_M) => (r_52 = 0 → wjX3_openBy_86 k0 p1 Q R37 x2 x3 x4 x5 M_52) ∧ (¬ r_52 = 0 → vp_in x5 30 ∧ (wpX3_isOpen k0 (pt_t x5) x3 M_52 (fun (r_70 : Int32) (M_70 : pt_M) => (r_70 = 0 → wjX3_openBy_86 k0 p1 Q R37 x2 x3 x4 x5 M_70) ∧ (¬ r_70 = 0 → wpX7_setOf x5 M_70 (fun (r_80 : Int32) (M_80 : pt_M) => ∀ x4_84 : Int32, x4_84 = (x4 ||| r_80) → wjX3_openBy_86 k0 p1 Q R37 x2 x3 x4_84 x5 M_80)))))))
def lpX3_openBy_37 (k0 : Nat) (p1 : Int32) (Q : Int32 → pt_M → Prop)  : Nat → Int32 → Int32 → Int32 → Int32 → pt_M → Prop
  | 0 => fun _ _ _ _ _ => False
  | n + 1 => fun x2 x3 x4 x5 M => lbX3_openBy_37 k0 p1 Q (lpX3_openBy_37 k0 p1 Q n) x2 x3 x4 x5 M
def wpX3_openBy (k0 : Nat) (p1 : Int32) (M : pt_M) (Q : Int32 → pt_M → Prop) : Prop :=
  vp_in p1 12 ∧ (∀ x2_9 : Int32, x2_9 = (M 4 (Int32.toNatClampNeg p1)) → (¬ x2_9 = 0 → wpX1_endedAmong (M (k0 + 1) 3) M (fun (r_27 : Int32) (M_27 : pt_M) => ∃ n : Nat, lpX3_openBy_37 k0 p1 Q n x2_9 r_27 0 0 M_27)) ∧ (x2_9 = 0 → Q 0 M))
set_option maxHeartbeats 4000000 in
set_option maxRecDepth 100000 in
theorem mtX3_openBy (l : Launch) (D : va_G) (cA : Nat → ClassId) (ad : Nat → Nat) (hI : pt_I ad) (sz : Nat) (k0 : Nat) (hk0 : pt_kd k0 = 3) (p1 : Int32) (M : pt_M) (Q : Int32 → pt_M → Prop) (hw : wpX3_openBy k0 p1 M Q) : Met l yX3_openBy (Cond.code yX3_openBy cX3_openBy 6 (some .int) :: lw_all) ({ frames := 2, cells := 0, slots := 0, locals := 46 } : Room) (va_Pc [.ref (ad k0), .int p1] (pt_P D cA ad sz M)) (va_Qi Q (pt_B D cA ad) (pt_fr ad sz)) 0 0 (pt_fr ad sz) := by
  refine Met.ofW (cc := cX3_openBy) (maxL := 6) (ret := (some .int)) (by decide) rfl ?_
  intro p e s m args below meth c s₁ B hml hv
  obtain ⟨rfl, hsz, hP, hK⟩ := hv
  have hx := B.exec
  have hb := B.bytes
  have hr := B.returns
  have hts0 := atoms_spec (ws := (Cond.code yX3_openBy cX3_openBy 6 (some .int) :: lw_all)) B.pre
  have hown : s.vm.findClass RX3 = some m.cls := findClass_of_methodNamed B.named
  have hlocks := B.notSynchronized
  subst hsz
  have F : pt_F p m c cX3_openBy 6 s _ RX3 D cA := ⟨⟨hx, hb, hml, hown, fun w h => hts0 w (List.mem_cons_of_mem _ h)⟩, hK⟩
  have hD : ∀ M, va_D (pt_fr ad s.heap.size) (pt_W cA ad M) := pt_D hI (fun k h => Or.inl ⟨k, h, rfl⟩)
  have hS : va_S (pt_fr ad s.heap.size) s.heap s.heap [] := va_S.rf
  have hl := lv_entry ([.ref (ad k0), .int p1]) (n := 6) (Nat.le_of_ble_eq_true rfl)
  rw [lg_entry_eq]
  generalize (lg_sl ([.ref (ad k0), .int p1]) ++ List.replicate (6 - (lg_sl ([.ref (ad k0), .int p1])).length) Slot.unset).toArray = ls at hl ⊢
  have hl : lv_has ls 6 [(0, .ref (ad k0)), (1, .int p1)] := hl
  have L37 : ∀ (n37 : Nat) (x2 : Int32) (x3 : Int32) (x4 : Int32) (x5 : Int32) (M : pt_M) (H : Heap) (locs : List Loc) (ls : Array Slot), lpX3_openBy_37 k0 p1 Q n37 x2 x3 x4 x5 M → va_P D pt_cl (pt_W cA ad M) H → va_S (pt_fr ad s.heap.size) s.heap H locs → lv_has ls 6 [(0, .ref (ad k0)), (2, .int x2), (3, .int x3), (4, .int x4), (5, .int x5)] → W p l e (headSpec (Cond.code yX3_openBy cX3_openBy 6 (some .int) :: lw_all) ({ frames := 2, cells := 0, slots := 0, locals := 46 } : Room)).room s m ([.ref (ad k0), .int p1] : List Value).toArray below meth c H locs 0 0 (MQ below (va_Qi Q (pt_B D cA ad) (pt_fr ad s.heap.size)) ([.ref (ad k0), .int p1] : List Value).toArray s 0 0 (pt_fr ad s.heap.size)) (F0 m 37 ls []) := by
    intro n37
    induction n37 with
    | zero => intro x2 x3 x4 x5 M H locs ls hw; exact hw.elim
    | succ n37 ih37 =>
      have J86 : ∀ (x2 : Int32) (x3 : Int32) (x4 : Int32) (x5 : Int32) (M : pt_M) (H : Heap) (locs : List Loc) (ls : Array Slot), wjX3_openBy_86 k0 p1 Q (lpX3_openBy_37 k0 p1 Q n37) x2 x3 x4 x5 M → va_P D pt_cl (pt_W cA ad M) H → va_S (pt_fr ad s.heap.size) s.heap H locs → lv_has ls 6 [(0, .ref (ad k0)), (2, .int x2), (3, .int x3), (4, .int x4), (5, .int x5)] → W p l e (headSpec (Cond.code yX3_openBy cX3_openBy 6 (some .int) :: lw_all) ({ frames := 2, cells := 0, slots := 0, locals := 46 } : Room)).room s m ([.ref (ad k0), .int p1] : List Value).toArray below meth c H locs 0 0 (MQ below (va_Qi Q (pt_B D cA ad) (pt_fr ad s.heap.size)) ([.ref (ad k0), .int p1] : List Value).toArray s 0 0 (pt_fr ad s.heap.size)) (F0 m 86 ls []) := by
        intro x2 x3 x4 x5 M H locs ls hw hP hS hl
        unfold wjX3_openBy_86 at hw
        obtain ⟨x5_86, ex5_86⟩ : ∃ y : Int32, y = x5 + 1 := ⟨_, rfl⟩
        replace hw := hw x5_86 ex5_86
        refine lv_iinc (v := x5_86) (lv' := [(5, .int x5_86), (0, .ref (ad k0)), (2, .int x2), (3, .int x3), (4, .int x4)]) hx hb dX3_openBy_86 hl (k := 4) rfl (by rw [ex5_86]; rfl) (by decide) rfl (fun ls hl => ?_)
        refine lv_goto (tgt := 37) hx hb dX3_openBy_89 (by decide) ?_
        exact ih37 x2 x3 x4 x5_86 M _ _ _ hw hP hS (lv_sub hl [1, 2, 3, 4, 0] rfl)
      intro x2 x3 x4 x5 M H locs ls hw hP hS hl
      replace hw : lbX3_openBy_37 k0 p1 Q (lpX3_openBy_37 k0 p1 Q n37) x2 x3 x4 x5 M := hw
      unfold lbX3_openBy_37 at hw
      refine lv_iload hx hb dX3_openBy_37 (lv_at hl 4 rfl) ?_
      refine lv_aload_n hx hb dX3_openBy_39 rfl (lv_at hl 0 rfl) ?_
      refine pt_get F hP (pt_c3 _ hk0) (pt_l3 hk0) inX3 rfl 0 (by decide) kw_289 rfl rfl dX3_openBy_40 ?_
      refine pt_get F hP (pt_c1 _ pt_k1) (pt_l1 pt_k1) inX1 rfl 4 (by decide) kw_235 rfl rfl dX3_openBy_43 ?_
      refine lv_icmp_ge (tgt := 92) hx hb dX3_openBy_46 (by decide) (fun hc46 => ?_) (fun hc46 => ?_)
      · replace hw := hw.1 hc46
        refine lv_iload hx hb dX3_openBy_92 (lv_at hl 3 rfl) ?_
        exact W.iret (v := x4) hx hb hr (fun t ht hW => ⟨⟨x4, M, rfl, hw, by unfold pt_B; rw [ht]; exact hP⟩, hS.F ht⟩) hS.2.2 dX3_openBy_94
      · replace hw := hw.2 hc46
        refine lv_iload_n hx hb dX3_openBy_49 rfl (lv_at hl 1 rfl) ?_
        refine lv_iload hx hb dX3_openBy_50 (lv_at hl 4 rfl) ?_
        refine pt_calli (pt_runSN (n := 2) (As := [.int x2, .int x5]) (rest := []) F hP (mtX7_has l D cA ad hI _ x2 x5 M _ hw) kw_449 kw_724 kw_52 kw_448 ⟨by decide, by decide, by decide +kernel⟩ ⟨rfl, rfl, Nat.le_of_ble_eq_true rfl, Nat.le_of_ble_eq_true rfl⟩ rfl hl.1 rfl (Nat.le_of_ble_eq_true rfl) dX3_openBy_52 ⟨Nat.zero_le _, Nat.zero_le _⟩) hS (fun _ h => h) (fun r_52 M_52 H locs hw hP hS _ _ => ?_)
        refine lv_if_eq (tgt := 86) hx hb dX3_openBy_55 (by decide) (fun hc55 => ?_) (fun hc55 => ?_)
        · replace hw := hw.1 hc55
          exact J86 x2 x3 x4 x5 M_52 _ _ _ hw hP hS (lv_sub hl [0, 1, 2, 3, 4] rfl)
        · replace hw := hw.2 hc55
          refine lv_aload_n hx hb dX3_openBy_58 rfl (lv_at hl 0 rfl) ?_
          refine lv_aload_n hx hb dX3_openBy_59 rfl (lv_at hl 0 rfl) ?_
          refine pt_get F hP (pt_c3 _ hk0) (pt_l3 hk0) inX3 rfl 0 (by decide) kw_289 rfl rfl dX3_openBy_60 ?_
          refine pt_get F hP (pt_c1 _ pt_k1) (pt_l1 pt_k1) inX1 rfl 1 (by decide) kw_227 rfl rfl dX3_openBy_63 ?_
          refine lv_iload hx hb dX3_openBy_66 (lv_at hl 4 rfl) ?_
          have hv68 := hw.1
          replace hw := hw.2
          refine pt_aldt F hP hv68 dX3_openBy_68 ?_
          refine lv_iload_n hx hb dX3_openBy_69 rfl (lv_at hl 2 rfl) ?_
          refine pt_calli (pt_runV (n := 2) (As := [.ref (ad (pt_t x5)), .int x3]) (rest := []) F hP (pt_c3 _ hk0) (pt_l3 hk0) rfl (mtX3_isOpen l D cA ad hI _ k0 hk0 (pt_t x5) (pt_kt hv68) x3 M_52 _ hw) kw_769 kw_766 kw_57 kw_768 kw_11 ⟨by decide, by decide, by decide +kernel⟩ ⟨rfl, rfl, Nat.le_of_ble_eq_true rfl, Nat.le_of_ble_eq_true rfl⟩ rfl hl.1 rfl (Nat.le_of_ble_eq_true rfl) dX3_openBy_70 ⟨Nat.zero_le _, Nat.zero_le _⟩) hS (fun _ h => h) (fun r_70 M_70 H locs hw hP hS _ _ => ?_)
          refine lv_if_eq (tgt := 86) hx hb dX3_openBy_73 (by decide) (fun hc73 => ?_) (fun hc73 => ?_)
          · replace hw := hw.1 hc73
            exact J86 x2 x3 x4 x5 M_70 _ _ _ hw hP hS (lv_sub hl [0, 1, 2, 3, 4] rfl)
          · replace hw := hw.2 hc73
            refine lv_iload hx hb dX3_openBy_76 (lv_at hl 3 rfl) ?_
            refine lv_iload hx hb dX3_openBy_78 (lv_at hl 4 rfl) ?_
            refine pt_calli (pt_runSN (n := 1) (As := [.int x5]) (rest := [.int x4]) F hP (mtX7_setOf l D cA ad hI _ x5 M_70 _ hw) kw_103 kw_725 kw_52 kw_102 ⟨by decide, by decide, by decide +kernel⟩ ⟨rfl, rfl, Nat.le_of_ble_eq_true rfl, Nat.le_of_ble_eq_true rfl⟩ rfl hl.1 rfl (Nat.le_of_ble_eq_true rfl) dX3_openBy_80 ⟨Nat.zero_le _, Nat.zero_le _⟩) hS (fun _ h => h) (fun r_80 M_80 H locs hw hP hS _ _ => ?_)
            refine lv_ior hx hb dX3_openBy_83 ?_
            refine lv_topi (fun x4_84 ex4_84 => ?_)
            replace hw := hw x4_84 ex4_84
            refine lv_istore (lv' := [(4, .int x4_84), (0, .ref (ad k0)), (2, .int x2), (3, .int x3), (5, .int x5)]) hx hb dX3_openBy_84 hl (by decide) rfl (fun ls hl => ?_)
            exact J86 x2 x3 x4_84 x5 M_80 _ _ _ hw hP hS (lv_sub hl [1, 2, 3, 0, 4] rfl)
  unfold wpX3_openBy at hw
  refine lv_aload_n hx hb dX3_openBy_0 rfl (lv_at hl 0 rfl) ?_
  refine pt_get F hP (pt_c3 _ hk0) (pt_l3 hk0) inX3 rfl 0 (by decide) kw_289 rfl rfl dX3_openBy_1 ?_
  refine pt_get F hP (pt_c1 _ pt_k1) (pt_l1 pt_k1) inX1 rfl 2 (by decide) kw_229 rfl rfl dX3_openBy_4 ?_
  refine lv_iload_n hx hb dX3_openBy_7 rfl (lv_at hl 1 rfl) ?_
  have hv8 := hw.1
  replace hw := hw.2
  refine pt_iald F hP pt_a4 hv8 dX3_openBy_8 ?_
  refine lv_topi (fun x2_9 ex2_9 => ?_)
  replace hw := hw x2_9 ex2_9
  refine lv_istore_n (lv' := [(2, .int x2_9), (0, .ref (ad k0)), (1, .int p1)]) hx hb dX3_openBy_9 rfl hl (by decide) rfl (fun ls hl => ?_)
  refine lv_iload_n hx hb dX3_openBy_10 rfl (lv_at hl 0 rfl) ?_
  refine lv_if_ne (tgt := 16) hx hb dX3_openBy_11 (by decide) (fun hc11 => ?_) (fun hc11 => ?_)
  · replace hw := hw.1 hc11
    refine lv_aload_n hx hb dX3_openBy_16 rfl (lv_at hl 1 rfl) ?_
    refine pt_get F hP (pt_c3 _ hk0) (pt_l3 hk0) inX3 rfl 0 (by decide) kw_289 rfl rfl dX3_openBy_17 ?_
    refine lv_aload_n hx hb dX3_openBy_20 rfl (lv_at hl 1 rfl) ?_
    refine pt_get F hP (pt_c3 _ hk0) (pt_l3 hk0) inX3 rfl 1 (by decide) kw_290 rfl rfl dX3_openBy_21 ?_
    refine pt_get F hP (pt_c4 _ (pt_3s hk0)) (pt_l4 (pt_3s hk0)) inX4 rfl 3 (by decide) kw_278 rfl rfl dX3_openBy_24 ?_
    refine pt_calli (pt_runV (n := 1) (As := [.int (M (k0 + 1) 3)]) (rest := []) F hP (pt_c1 _ pt_k1) (pt_l1 pt_k1) rfl (mtX1_endedAmong l D cA ad hI _ (M (k0 + 1) 3) M _ hw) kw_473 kw_765 kw_53 kw_471 kw_472 ⟨by decide, by decide, by decide +kernel⟩ ⟨rfl, rfl, Nat.le_of_ble_eq_true rfl, Nat.le_of_ble_eq_true rfl⟩ rfl hl.1 rfl (Nat.le_of_ble_eq_true rfl) dX3_openBy_27 ⟨Nat.zero_le _, Nat.zero_le _⟩) hS (fun _ h => h) (fun r_27 M_27 H locs hw hP hS _ _ => ?_)
    refine lv_istore_n (lv' := [(3, .int r_27), (2, .int x2_9), (0, .ref (ad k0)), (1, .int p1)]) hx hb dX3_openBy_30 rfl hl (by decide) rfl (fun ls hl => ?_)
    refine lv_iconst (v := 0) hx hb dX3_openBy_31 (by decide) ?_
    refine lv_istore (lv' := [(4, .int 0), (3, .int r_27), (2, .int x2_9), (0, .ref (ad k0)), (1, .int p1)]) hx hb dX3_openBy_32 hl (by decide) rfl (fun ls hl => ?_)
    refine lv_iconst (v := 0) hx hb dX3_openBy_34 (by decide) ?_
    refine lv_istore (lv' := [(5, .int 0), (4, .int 0), (3, .int r_27), (2, .int x2_9), (0, .ref (ad k0)), (1, .int p1)]) hx hb dX3_openBy_35 hl (by decide) rfl (fun ls hl => ?_)
    obtain ⟨n_, hw⟩ := hw
    exact L37 n_ x2_9 r_27 0 0 M_27 _ _ _ hw hP hS (lv_sub hl [4, 3, 2, 1, 0] rfl)
  · replace hw := hw.2 hc11
    refine lv_iconst (v := 0) hx hb dX3_openBy_14 (by decide) ?_
    exact W.iret (v := 0) hx hb hr (fun t ht hW => ⟨⟨0, M, rfl, hw, by unfold pt_B; rw [ht]; exact hP⟩, hS.F ht⟩) hS.2.2 dX3_openBy_15
-- ===== X3_smallestOf
def wpX3_smallestOf (p1 : Int32) (M : pt_M) (Q : Int32 → pt_M → Prop) : Prop :=
  wpJ6_bitCount_0f7a4 ((p1 &&& (-p1)) - 1) M (fun (r_6 : Int32) (M_6 : pt_M) => Q r_6 M_6)
set_option maxHeartbeats 4000000 in
set_option maxRecDepth 100000 in
theorem mtX3_smallestOf (l : Launch) (D : va_G) (cA : Nat → ClassId) (ad : Nat → Nat) (hI : pt_I ad) (sz : Nat) (p1 : Int32) (M : pt_M) (Q : Int32 → pt_M → Prop) (hw : wpX3_smallestOf p1 M Q) : Met l yX3_smallestOf (Cond.code yX3_smallestOf cX3_smallestOf 1 (some .int) :: lw_all) ({ frames := 1, cells := 0, slots := 0, locals := 20 } : Room) (va_Pc [.int p1] (pt_P D cA ad sz M)) (va_Qi Q (pt_B D cA ad) (pt_fr ad sz)) 0 0 (pt_fr ad sz) := by
  refine Met.ofW (cc := cX3_smallestOf) (maxL := 1) (ret := (some .int)) (by decide) rfl ?_
  intro p e s m args below meth c s₁ B hml hv
  obtain ⟨rfl, hsz, hP, hK⟩ := hv
  have hx := B.exec
  have hb := B.bytes
  have hr := B.returns
  have hts0 := atoms_spec (ws := (Cond.code yX3_smallestOf cX3_smallestOf 1 (some .int) :: lw_all)) B.pre
  have hown : s.vm.findClass RX3 = some m.cls := findClass_of_methodNamed B.named
  have hlocks := B.notSynchronized
  subst hsz
  have F : pt_F p m c cX3_smallestOf 1 s _ RX3 D cA := ⟨⟨hx, hb, hml, hown, fun w h => hts0 w (List.mem_cons_of_mem _ h)⟩, hK⟩
  have hD : ∀ M, va_D (pt_fr ad s.heap.size) (pt_W cA ad M) := pt_D hI (fun k h => Or.inl ⟨k, h, rfl⟩)
  have hS : va_S (pt_fr ad s.heap.size) s.heap s.heap [] := va_S.rf
  have hl := lv_entry ([.int p1]) (n := 1) (Nat.le_of_ble_eq_true rfl)
  rw [lg_entry_eq]
  generalize (lg_sl ([.int p1]) ++ List.replicate (1 - (lg_sl ([.int p1])).length) Slot.unset).toArray = ls at hl ⊢
  have hl : lv_has ls 1 [(0, .int p1)] := hl
  unfold wpX3_smallestOf at hw
  refine lv_iload_n hx hb dX3_smallestOf_0 rfl (lv_at hl 0 rfl) ?_
  refine lv_iload_n hx hb dX3_smallestOf_1 rfl (lv_at hl 0 rfl) ?_
  refine lv_ineg hx hb dX3_smallestOf_2 ?_
  refine lv_iand hx hb dX3_smallestOf_3 ?_
  refine lv_iconst (v := 1) hx hb dX3_smallestOf_4 (by decide) ?_
  refine lv_isub hx hb dX3_smallestOf_5 ?_
  refine pt_calli (pt_runS (n := 1) (As := [.int ((p1 &&& (-p1)) - 1)]) (rest := []) F hP (mtJ6_bitCount_0f7a4 l D cA ad hI _ ((p1 &&& (-p1)) - 1) M _ hw) kw_443 kw_785 kw_80 kw_442 ⟨by decide, by decide, by decide +kernel⟩ ⟨rfl, rfl, Nat.le_of_ble_eq_true rfl, Nat.le_of_ble_eq_true rfl⟩ rfl hl.1 rfl (Nat.le_of_ble_eq_true rfl) dX3_smallestOf_6 ⟨Nat.zero_le _, Nat.zero_le _⟩) hS (fun _ h => h) (fun r_6 M_6 H locs hw hP hS _ _ => ?_)
  exact W.iret (v := r_6) hx hb hr (fun t ht hW => ⟨⟨r_6, M_6, rfl, hw, by unfold pt_B; rw [ht]; exact hP⟩, hS.F ht⟩) hS.2.2 dX3_smallestOf_9
-- ===== X3_nearestOpen
def wjX3_nearestOpen_77 (k0 : Nat) (p1 : Int32) (p2 : Int32) (Q : Int32 → pt_M → Prop) (R2 : Int32 → pt_M → Prop) (x3 : Int32) (M : pt_M) : Prop :=
  ∀ x3_77 : Int32, x3_77 = x3 + (-1) → R2 x3_77 M
def wjX3_nearestOpen_35 (k0 : Nat) (p1 : Int32) (p2 : Int32) (Q : Int32 → pt_M → Prop) (R2 : Int32 → pt_M → Prop) (x3 : Int32) (xs0 : Int32) (M : pt_M) : Prop :=
  (xs0 = 0 → wjX3_nearestOpen_77 k0 p1 p2 Q R2 x3 M) ∧ (¬ xs0 = 0 → vp_in x3 20 ∧ ((((M (pt_s x3) 8) &&& p2) = 0 → wjX3_nearestOpen_77 k0 p1 p2 Q R2 x3 M) ∧ (¬ ((M (pt_s x3) 8) &&& p2) = 0 → vp_in x3 20 ∧ (wpX3_smallestOf ((M (pt_s x3) 8) &&& p2) M (fun (r_73 : Int32) (M_73 : pt_M) => Q r_73 M_73)))))
def wjX3_nearestOpen_30 (k0 : Nat) (p1 : Int32) (p2 : Int32) (Q : Int32 → pt_M → Prop) (R2 : Int32 → pt_M → Prop) (x3 : Int32) (M : pt_M) : Prop :=
  wjX3_nearestOpen_35 k0 p1 p2 Q R2 x3 1 M
def lbX3_nearestOpen_2 (k0 : Nat) (p1 : Int32) (p2 : Int32) (Q : Int32 → pt_M → Prop)  (R2 : Int32 → pt_M → Prop) (x3 : Int32) (M : pt_M) : Prop :=
  (x3 < 0 → Q (-1) M) ∧ (¬ x3 < 0 → (x3 = p1 → wjX3_nearestOpen_30 k0 p1 p2 Q R2 x3 M) ∧ (¬ x3 = p1 → vp_in x3 20 ∧ (wpX7_has (M (pt_s x3) 7) p1 M (fun (r_24 : Int32) (M_24 : pt_M) => (r_24 = 0 → wjX3_nearestOpen_35 k0 p1 p2 Q R2 x3 0 M_24) ∧ (¬ r_24 = 0 → wjX3_nearestOpen_30 k0 p1 p2 Q R2 x3 M_24)))))
def lpX3_nearestOpen_2 (k0 : Nat) (p1 : Int32) (p2 : Int32) (Q : Int32 → pt_M → Prop)  : Nat → Int32 → pt_M → Prop
  | 0 => fun _ _ => False
  | n + 1 => fun x3 M => lbX3_nearestOpen_2 k0 p1 p2 Q (lpX3_nearestOpen_2 k0 p1 p2 Q n) x3 M
def wpX3_nearestOpen (k0 : Nat) (p1 : Int32) (p2 : Int32) (M : pt_M) (Q : Int32 → pt_M → Prop) : Prop :=
  ∃ n : Nat, lpX3_nearestOpen_2 k0 p1 p2 Q n p1 M
set_option maxHeartbeats 4000000 in
set_option maxRecDepth 100000 in
theorem mtX3_nearestOpen (l : Launch) (D : va_G) (cA : Nat → ClassId) (ad : Nat → Nat) (hI : pt_I ad) (sz : Nat) (k0 : Nat) (hk0 : pt_kd k0 = 3) (p1 : Int32) (p2 : Int32) (M : pt_M) (Q : Int32 → pt_M → Prop) (hw : wpX3_nearestOpen k0 p1 p2 M Q) : Met l yX3_nearestOpen (Cond.code yX3_nearestOpen cX3_nearestOpen 5 (some .int) :: lw_all) ({ frames := 2, cells := 0, slots := 0, locals := 40 } : Room) (va_Pc [.ref (ad k0), .int p1, .int p2] (pt_P D cA ad sz M)) (va_Qi Q (pt_B D cA ad) (pt_fr ad sz)) 0 0 (pt_fr ad sz) := by
  refine Met.ofW (cc := cX3_nearestOpen) (maxL := 5) (ret := (some .int)) (by decide) rfl ?_
  intro p e s m args below meth c s₁ B hml hv
  obtain ⟨rfl, hsz, hP, hK⟩ := hv
  have hx := B.exec
  have hb := B.bytes
  have hr := B.returns
  have hts0 := atoms_spec (ws := (Cond.code yX3_nearestOpen cX3_nearestOpen 5 (some .int) :: lw_all)) B.pre
  have hown : s.vm.findClass RX3 = some m.cls := findClass_of_methodNamed B.named
  have hlocks := B.notSynchronized
  subst hsz
  have F : pt_F p m c cX3_nearestOpen 5 s _ RX3 D cA := ⟨⟨hx, hb, hml, hown, fun w h => hts0 w (List.mem_cons_of_mem _ h)⟩, hK⟩
  have hD : ∀ M, va_D (pt_fr ad s.heap.size) (pt_W cA ad M) := pt_D hI (fun k h => Or.inl ⟨k, h, rfl⟩)
  have hS : va_S (pt_fr ad s.heap.size) s.heap s.heap [] := va_S.rf
  have hl := lv_entry ([.ref (ad k0), .int p1, .int p2]) (n := 5) (Nat.le_of_ble_eq_true rfl)
  rw [lg_entry_eq]
  generalize (lg_sl ([.ref (ad k0), .int p1, .int p2]) ++ List.replicate (5 - (lg_sl ([.ref (ad k0), .int p1, .int p2])).length) Slot.unset).toArray = ls at hl ⊢
  have hl : lv_has ls 5 [(0, .ref (ad k0)), (1, .int p1), (2, .int p2)] := hl
  have L2 : ∀ (n2 : Nat) (x3 : Int32) (M : pt_M) (H : Heap) (locs : List Loc) (ls : Array Slot), lpX3_nearestOpen_2 k0 p1 p2 Q n2 x3 M → va_P D pt_cl (pt_W cA ad M) H → va_S (pt_fr ad s.heap.size) s.heap H locs → lv_has ls 5 [(0, .ref (ad k0)), (1, .int p1), (2, .int p2), (3, .int x3)] → W p l e (headSpec (Cond.code yX3_nearestOpen cX3_nearestOpen 5 (some .int) :: lw_all) ({ frames := 2, cells := 0, slots := 0, locals := 40 } : Room)).room s m ([.ref (ad k0), .int p1, .int p2] : List Value).toArray below meth c H locs 0 0 (MQ below (va_Qi Q (pt_B D cA ad) (pt_fr ad s.heap.size)) ([.ref (ad k0), .int p1, .int p2] : List Value).toArray s 0 0 (pt_fr ad s.heap.size)) (F0 m 2 ls []) := by
    intro n2
    induction n2 with
    | zero => intro x3 M H locs ls hw; exact hw.elim
    | succ n2 ih2 =>
      have J77 : ∀ (x3 : Int32) (M : pt_M) (H : Heap) (locs : List Loc) (ls : Array Slot), wjX3_nearestOpen_77 k0 p1 p2 Q (lpX3_nearestOpen_2 k0 p1 p2 Q n2) x3 M → va_P D pt_cl (pt_W cA ad M) H → va_S (pt_fr ad s.heap.size) s.heap H locs → lv_has ls 5 [(0, .ref (ad k0)), (1, .int p1), (2, .int p2), (3, .int x3)] → W p l e (headSpec (Cond.code yX3_nearestOpen cX3_nearestOpen 5 (some .int) :: lw_all) ({ frames := 2, cells := 0, slots := 0, locals := 40 } : Room)).room s m ([.ref (ad k0), .int p1, .int p2] : List Value).toArray below meth c H locs 0 0 (MQ below (va_Qi Q (pt_B D cA ad) (pt_fr ad s.heap.size)) ([.ref (ad k0), .int p1, .int p2] : List Value).toArray s 0 0 (pt_fr ad s.heap.size)) (F0 m 77 ls []) := by
        intro x3 M H locs ls hw hP hS hl
        unfold wjX3_nearestOpen_77 at hw
        obtain ⟨x3_77, ex3_77⟩ : ∃ y : Int32, y = x3 + (-1) := ⟨_, rfl⟩
        replace hw := hw x3_77 ex3_77
        refine lv_iinc (v := x3_77) (lv' := [(3, .int x3_77), (0, .ref (ad k0)), (1, .int p1), (2, .int p2)]) hx hb dX3_nearestOpen_77 hl (k := 3) rfl (by rw [ex3_77]; rfl) (by decide) rfl (fun ls hl => ?_)
        refine lv_goto (tgt := 2) hx hb dX3_nearestOpen_80 (by decide) ?_
        exact ih2 x3_77 M _ _ _ hw hP hS (lv_sub hl [1, 2, 3, 0] rfl)
      have J35 : ∀ (x3 : Int32) (xs0 : Int32) (M : pt_M) (H : Heap) (locs : List Loc) (ls : Array Slot), wjX3_nearestOpen_35 k0 p1 p2 Q (lpX3_nearestOpen_2 k0 p1 p2 Q n2) x3 xs0 M → va_P D pt_cl (pt_W cA ad M) H → va_S (pt_fr ad s.heap.size) s.heap H locs → lv_has ls 5 [(0, .ref (ad k0)), (1, .int p1), (2, .int p2), (3, .int x3)] → W p l e (headSpec (Cond.code yX3_nearestOpen cX3_nearestOpen 5 (some .int) :: lw_all) ({ frames := 2, cells := 0, slots := 0, locals := 40 } : Room)).room s m ([.ref (ad k0), .int p1, .int p2] : List Value).toArray below meth c H locs 0 0 (MQ below (va_Qi Q (pt_B D cA ad) (pt_fr ad s.heap.size)) ([.ref (ad k0), .int p1, .int p2] : List Value).toArray s 0 0 (pt_fr ad s.heap.size)) (F0 m 35 ls [.int xs0]) := by
        intro x3 xs0 M H locs ls hw hP hS hl
        unfold wjX3_nearestOpen_35 at hw
        refine lv_istore (lv' := [(4, .int xs0), (0, .ref (ad k0)), (1, .int p1), (2, .int p2), (3, .int x3)]) hx hb dX3_nearestOpen_35 hl (by decide) rfl (fun ls hl => ?_)
        refine lv_iload hx hb dX3_nearestOpen_37 (lv_at hl 0 rfl) ?_
        refine lv_if_eq (tgt := 77) hx hb dX3_nearestOpen_39 (by decide) (fun hc39 => ?_) (fun hc39 => ?_)
        · replace hw := hw.1 hc39
          exact J77 x3 M _ _ _ hw hP hS (lv_sub hl [1, 2, 3, 4] rfl)
        · replace hw := hw.2 hc39
          refine lv_aload_n hx hb dX3_nearestOpen_42 rfl (lv_at hl 1 rfl) ?_
          refine pt_get F hP (pt_c3 _ hk0) (pt_l3 hk0) inX3 rfl 0 (by decide) kw_289 rfl rfl dX3_nearestOpen_43 ?_
          refine pt_get F hP (pt_c1 _ pt_k1) (pt_l1 pt_k1) inX1 rfl 0 (by decide) kw_224 rfl rfl dX3_nearestOpen_46 ?_
          refine lv_iload_n hx hb dX3_nearestOpen_49 rfl (lv_at hl 4 rfl) ?_
          have hv50 := hw.1
          replace hw := hw.2
          refine pt_alds F hP hv50 dX3_nearestOpen_50 ?_
          refine pt_get F hP (pt_c5 _ (pt_ks hv50)) (pt_l5 (pt_ks hv50)) inX5 rfl 8 (by decide) kw_155 rfl rfl dX3_nearestOpen_51 ?_
          refine lv_iload_n hx hb dX3_nearestOpen_54 rfl (lv_at hl 3 rfl) ?_
          refine lv_iand hx hb dX3_nearestOpen_55 ?_
          refine lv_if_eq (tgt := 77) hx hb dX3_nearestOpen_56 (by decide) (fun hc56 => ?_) (fun hc56 => ?_)
          · replace hw := hw.1 hc56
            exact J77 x3 M _ _ _ hw hP hS (lv_sub hl [1, 2, 3, 4] rfl)
          · replace hw := hw.2 hc56
            refine lv_aload_n hx hb dX3_nearestOpen_59 rfl (lv_at hl 1 rfl) ?_
            refine pt_get F hP (pt_c3 _ hk0) (pt_l3 hk0) inX3 rfl 0 (by decide) kw_289 rfl rfl dX3_nearestOpen_60 ?_
            refine pt_get F hP (pt_c1 _ pt_k1) (pt_l1 pt_k1) inX1 rfl 0 (by decide) kw_224 rfl rfl dX3_nearestOpen_63 ?_
            refine lv_iload_n hx hb dX3_nearestOpen_66 rfl (lv_at hl 4 rfl) ?_
            have hv67 := hw.1
            replace hw := hw.2
            refine pt_alds F hP hv67 dX3_nearestOpen_67 ?_
            refine pt_get F hP (pt_c5 _ (pt_ks hv67)) (pt_l5 (pt_ks hv67)) inX5 rfl 8 (by decide) kw_155 rfl rfl dX3_nearestOpen_68 ?_
            refine lv_iload_n hx hb dX3_nearestOpen_71 rfl (lv_at hl 3 rfl) ?_
            refine lv_iand hx hb dX3_nearestOpen_72 ?_
            refine pt_calli (pt_runS (n := 1) (As := [.int ((M (pt_s x3) 8) &&& p2)]) (rest := []) F hP (mtX3_smallestOf l D cA ad hI _ ((M (pt_s x3) 8) &&& p2) M _ hw) kw_784 kw_782 kw_57 kw_783 ⟨by decide, by decide, by decide +kernel⟩ ⟨rfl, rfl, Nat.le_of_ble_eq_true rfl, Nat.le_of_ble_eq_true rfl⟩ rfl hl.1 rfl (Nat.le_of_ble_eq_true rfl) dX3_nearestOpen_73 ⟨Nat.zero_le _, Nat.zero_le _⟩) hS (fun _ h => h) (fun r_73 M_73 H locs hw hP hS _ _ => ?_)
            exact W.iret (v := r_73) hx hb hr (fun t ht hW => ⟨⟨r_73, M_73, rfl, hw, by unfold pt_B; rw [ht]; exact hP⟩, hS.F ht⟩) hS.2.2 dX3_nearestOpen_76
      have J30 : ∀ (x3 : Int32) (M : pt_M) (H : Heap) (locs : List Loc) (ls : Array Slot), wjX3_nearestOpen_30 k0 p1 p2 Q (lpX3_nearestOpen_2 k0 p1 p2 Q n2) x3 M → va_P D pt_cl (pt_W cA ad M) H → va_S (pt_fr ad s.heap.size) s.heap H locs → lv_has ls 5 [(0, .ref (ad k0)), (1, .int p1), (2, .int p2), (3, .int x3)] → W p l e (headSpec (Cond.code yX3_nearestOpen cX3_nearestOpen 5 (some .int) :: lw_all) ({ frames := 2, cells := 0, slots := 0, locals := 40 } : Room)).room s m ([.ref (ad k0), .int p1, .int p2] : List Value).toArray below meth c H locs 0 0 (MQ below (va_Qi Q (pt_B D cA ad) (pt_fr ad s.heap.size)) ([.ref (ad k0), .int p1, .int p2] : List Value).toArray s 0 0 (pt_fr ad s.heap.size)) (F0 m 30 ls []) := by
        intro x3 M H locs ls hw hP hS hl
        unfold wjX3_nearestOpen_30 at hw
        refine lv_iconst (v := 1) hx hb dX3_nearestOpen_30 (by decide) ?_
        refine lv_goto (tgt := 35) hx hb dX3_nearestOpen_31 (by decide) ?_
        exact J35 x3 1 M _ _ _ hw hP hS (lv_sub hl [0, 1, 2, 3] rfl)
      intro x3 M H locs ls hw hP hS hl
      replace hw : lbX3_nearestOpen_2 k0 p1 p2 Q (lpX3_nearestOpen_2 k0 p1 p2 Q n2) x3 M := hw
      unfold lbX3_nearestOpen_2 at hw
      refine lv_iload_n hx hb dX3_nearestOpen_2 rfl (lv_at hl 3 rfl) ?_
      refine lv_if_lt (tgt := 83) hx hb dX3_nearestOpen_3 (by decide) (fun hc3 => ?_) (fun hc3 => ?_)
      · replace hw := hw.1 hc3
        refine lv_iconst (v := (-1)) hx hb dX3_nearestOpen_83 (by decide) ?_
        exact W.iret (v := (-1)) hx hb hr (fun t ht hW => ⟨⟨(-1), M, rfl, hw, by unfold pt_B; rw [ht]; exact hP⟩, hS.F ht⟩) hS.2.2 dX3_nearestOpen_84
      · replace hw := hw.2 hc3
        refine lv_iload_n hx hb dX3_nearestOpen_6 rfl (lv_at hl 3 rfl) ?_
        refine lv_iload_n hx hb dX3_nearestOpen_7 rfl (lv_at hl 1 rfl) ?_
        refine lv_icmp_eq (tgt := 30) hx hb dX3_nearestOpen_8 (by decide) (fun hc8 => ?_) (fun hc8 => ?_)
        · replace hw := hw.1 hc8
          exact J30 x3 M _ _ _ hw hP hS (lv_sub hl [0, 1, 2, 3] rfl)
        · replace hw := hw.2 hc8
          refine lv_aload_n hx hb dX3_nearestOpen_11 rfl (lv_at hl 0 rfl) ?_
          refine pt_get F hP (pt_c3 _ hk0) (pt_l3 hk0) inX3 rfl 0 (by decide) kw_289 rfl rfl dX3_nearestOpen_12 ?_
          refine pt_get F hP (pt_c1 _ pt_k1) (pt_l1 pt_k1) inX1 rfl 0 (by decide) kw_224 rfl rfl dX3_nearestOpen_15 ?_
          refine lv_iload_n hx hb dX3_nearestOpen_18 rfl (lv_at hl 3 rfl) ?_
          have hv19 := hw.1
          replace hw := hw.2
          refine pt_alds F hP hv19 dX3_nearestOpen_19 ?_
          refine pt_get F hP (pt_c5 _ (pt_ks hv19)) (pt_l5 (pt_ks hv19)) inX5 rfl 7 (by decide) kw_153 rfl rfl dX3_nearestOpen_20 ?_
          refine lv_iload_n hx hb dX3_nearestOpen_23 rfl (lv_at hl 1 rfl) ?_
          refine pt_calli (pt_runSN (n := 2) (As := [.int (M (pt_s x3) 7), .int p1]) (rest := []) F hP (mtX7_has l D cA ad hI _ (M (pt_s x3) 7) p1 M _ hw) kw_449 kw_724 kw_52 kw_448 ⟨by decide, by decide, by decide +kernel⟩ ⟨rfl, rfl, Nat.le_of_ble_eq_true rfl, Nat.le_of_ble_eq_true rfl⟩ rfl hl.1 rfl (Nat.le_of_ble_eq_true rfl) dX3_nearestOpen_24 ⟨Nat.zero_le _, Nat.zero_le _⟩) hS (fun _ h => h) (fun r_24 M_24 H locs hw hP hS _ _ => ?_)
          refine lv_if_eq (tgt := 34) hx hb dX3_nearestOpen_27 (by decide) (fun hc27 => ?_) (fun hc27 => ?_)
          · replace hw := hw.1 hc27
            refine lv_iconst (v := 0) hx hb dX3_nearestOpen_34 (by decide) ?_
            exact J35 x3 0 M_24 _ _ _ hw hP hS (lv_sub hl [0, 1, 2, 3] rfl)
          · replace hw := hw.2 hc27
            exact J30 x3 M_24 _ _ _ hw hP hS (lv_sub hl [0, 1, 2, 3] rfl)
  unfold wpX3_nearestOpen at hw
  refine lv_iload_n hx hb dX3_nearestOpen_0 rfl (lv_at hl 1 rfl) ?_
  refine lv_istore_n (lv' := [(3, .int p1), (0, .ref (ad k0)), (1, .int p1), (2, .int p2)]) hx hb dX3_nearestOpen_1 rfl hl (by decide) rfl (fun ls hl => ?_)
  obtain ⟨n_, hw⟩ := hw
  exact L2 n_ p1 M _ _ _ hw hP hS (lv_sub hl [1, 2, 3, 0] rfl)
-- ===== X3_leftBy
def wjX3_leftBy_35 (k0 : Nat) (k1 : Nat) (Q : Int32 → pt_M → Prop)  (xs0 : Int32) (M : pt_M) : Prop :=
  Q xs0 M
def wpX3_leftBy (k0 : Nat) (k1 : Nat) (M : pt_M) (Q : Int32 → pt_M → Prop) : Prop :=
  (¬ (M k1 4) = (-1) → vp_in (M k1 5) 20 ∧ (wjX3_leftBy_35 k0 k1 Q ((M (pt_s (M k1 5)) 7) &&& (M (k0 + 1) 3)) M)) ∧ ((M k1 4) = (-1) → wjX3_leftBy_35 k0 k1 Q 0 M)
set_option maxHeartbeats 4000000 in
set_option maxRecDepth 100000 in
theorem mtX3_leftBy (l : Launch) (D : va_G) (cA : Nat → ClassId) (ad : Nat → Nat) (hI : pt_I ad) (sz : Nat) (k0 : Nat) (hk0 : pt_kd k0 = 3) (k1 : Nat) (hk1 : pt_kd k1 = 6) (M : pt_M) (Q : Int32 → pt_M → Prop) (hw : wpX3_leftBy k0 k1 M Q) : Met l yX3_leftBy (Cond.code yX3_leftBy cX3_leftBy 2 (some .int) :: lw_all) ({ frames := 0, cells := 0, slots := 0, locals := 0 } : Room) (va_Pc [.ref (ad k0), .ref (ad k1)] (pt_P D cA ad sz M)) (va_Qi Q (pt_B D cA ad) (pt_fr ad sz)) 0 0 (pt_fr ad sz) := by
  refine Met.ofW (cc := cX3_leftBy) (maxL := 2) (ret := (some .int)) (by decide) rfl ?_
  intro p e s m args below meth c s₁ B hml hv
  obtain ⟨rfl, hsz, hP, hK⟩ := hv
  have hx := B.exec
  have hb := B.bytes
  have hr := B.returns
  have hts0 := atoms_spec (ws := (Cond.code yX3_leftBy cX3_leftBy 2 (some .int) :: lw_all)) B.pre
  have hown : s.vm.findClass RX3 = some m.cls := findClass_of_methodNamed B.named
  have hlocks := B.notSynchronized
  subst hsz
  have F : pt_F p m c cX3_leftBy 2 s _ RX3 D cA := ⟨⟨hx, hb, hml, hown, fun w h => hts0 w (List.mem_cons_of_mem _ h)⟩, hK⟩
  have hD : ∀ M, va_D (pt_fr ad s.heap.size) (pt_W cA ad M) := pt_D hI (fun k h => Or.inl ⟨k, h, rfl⟩)
  have hS : va_S (pt_fr ad s.heap.size) s.heap s.heap [] := va_S.rf
  have hl := lv_entry ([.ref (ad k0), .ref (ad k1)]) (n := 2) (Nat.le_of_ble_eq_true rfl)
  rw [lg_entry_eq]
  generalize (lg_sl ([.ref (ad k0), .ref (ad k1)]) ++ List.replicate (2 - (lg_sl ([.ref (ad k0), .ref (ad k1)])).length) Slot.unset).toArray = ls at hl ⊢
  have hl : lv_has ls 2 [(0, .ref (ad k0)), (1, .ref (ad k1))] := hl
  have J35 : ∀ (xs0 : Int32) (M : pt_M) (H : Heap) (locs : List Loc) (ls : Array Slot), wjX3_leftBy_35 k0 k1 Q xs0 M → va_P D pt_cl (pt_W cA ad M) H → va_S (pt_fr ad s.heap.size) s.heap H locs → lv_has ls 2 [] → W p l e (headSpec (Cond.code yX3_leftBy cX3_leftBy 2 (some .int) :: lw_all) ({ frames := 0, cells := 0, slots := 0, locals := 0 } : Room)).room s m ([.ref (ad k0), .ref (ad k1)] : List Value).toArray below meth c H locs 0 0 (MQ below (va_Qi Q (pt_B D cA ad) (pt_fr ad s.heap.size)) ([.ref (ad k0), .ref (ad k1)] : List Value).toArray s 0 0 (pt_fr ad s.heap.size)) (F0 m 35 ls [.int xs0]) := by
    intro xs0 M H locs ls hw hP hS hl
    unfold wjX3_leftBy_35 at hw
    exact W.iret (v := xs0) hx hb hr (fun t ht hW => ⟨⟨xs0, M, rfl, hw, by unfold pt_B; rw [ht]; exact hP⟩, hS.F ht⟩) hS.2.2 dX3_leftBy_35
  unfold wpX3_leftBy at hw
  refine lv_aload_n hx hb dX3_leftBy_0 rfl (lv_at hl 1 rfl) ?_
  refine pt_get F hP (pt_c6 _ hk1) (pt_l6 hk1) inX6 rfl 4 (by decide) kw_193 rfl rfl dX3_leftBy_1 ?_
  refine lv_iconst (v := (-1)) hx hb dX3_leftBy_4 (by decide) ?_
  refine lv_icmp_ne (tgt := 12) hx hb dX3_leftBy_5 (by decide) (fun hc5 => ?_) (fun hc5 => ?_)
  · replace hw := hw.1 hc5
    refine lv_aload_n hx hb dX3_leftBy_12 rfl (lv_at hl 0 rfl) ?_
    refine pt_get F hP (pt_c3 _ hk0) (pt_l3 hk0) inX3 rfl 0 (by decide) kw_289 rfl rfl dX3_leftBy_13 ?_
    refine pt_get F hP (pt_c1 _ pt_k1) (pt_l1 pt_k1) inX1 rfl 0 (by decide) kw_224 rfl rfl dX3_leftBy_16 ?_
    refine lv_aload_n hx hb dX3_leftBy_19 rfl (lv_at hl 1 rfl) ?_
    refine pt_get F hP (pt_c6 _ hk1) (pt_l6 hk1) inX6 rfl 5 (by decide) kw_196 rfl rfl dX3_leftBy_20 ?_
    have hv23 := hw.1
    replace hw := hw.2
    refine pt_alds F hP hv23 dX3_leftBy_23 ?_
    refine pt_get F hP (pt_c5 _ (pt_ks hv23)) (pt_l5 (pt_ks hv23)) inX5 rfl 7 (by decide) kw_153 rfl rfl dX3_leftBy_24 ?_
    refine lv_aload_n hx hb dX3_leftBy_27 rfl (lv_at hl 0 rfl) ?_
    refine pt_get F hP (pt_c3 _ hk0) (pt_l3 hk0) inX3 rfl 1 (by decide) kw_290 rfl rfl dX3_leftBy_28 ?_
    refine pt_get F hP (pt_c4 _ (pt_3s hk0)) (pt_l4 (pt_3s hk0)) inX4 rfl 3 (by decide) kw_278 rfl rfl dX3_leftBy_31 ?_
    refine lv_iand hx hb dX3_leftBy_34 ?_
    exact J35 ((M (pt_s (M k1 5)) 7) &&& (M (k0 + 1) 3)) M _ _ _ hw hP hS (lv_sub hl [] rfl)
  · replace hw := hw.2 hc5
    refine lv_iconst (v := 0) hx hb dX3_leftBy_8 (by decide) ?_
    refine lv_goto (tgt := 35) hx hb dX3_leftBy_9 (by decide) ?_
    exact J35 0 M _ _ _ hw hP hS (lv_sub hl [] rfl)
-- ===== X3_takeIfFree
def wjX3_takeIfFree_145 (k0 : Nat) (p1 : Int32) (Q : pt_M → Prop) (R95 : Int32 → Int32 → Int32 → pt_M → Prop) (x3 : Int32) (x4 : Int32) (x5 : Int32) (M : pt_M) : Prop :=
  ∀ x5_145 : Int32, x5_145 = x5 + 1 → R95 x3 x4 x5_145 M
def lbX3_takeIfFree_95 (k0 : Nat) (p1 : Int32) (Q : pt_M → Prop)  (R95 : Int32 → Int32 → Int32 → pt_M → Prop) (x3 : Int32) (x4 : Int32) (x5 : Int32) (M : pt_M) : Prop :=
  ((M k0 10) ≤ x5 → vp_in x4 30 ∧ ∀ M_158 : pt_M, M_158 = pt_st M (k0 + 7) (Int32.toNatClampNeg x4) p1 → ∀ M_164 : pt_M, M_164 = pt_st M_158 k0 10 (x4 + 1) → Q M_164) ∧ (¬ (M k0 10) ≤ x5 → vp_in x5 30 ∧ (vp_in (M (k0 + 7) (Int32.toNatClampNeg x5)) 30 ∧ (wpX3_leftBy k0 (pt_t (M (k0 + 7) (Int32.toNatClampNeg x5))) M (fun (r_120 : Int32) (M_120 : pt_M) => (¬ (r_120 &&& x3) = 0 → wjX3_takeIfFree_145 k0 p1 Q R95 x3 x4 x5 M_120) ∧ ((r_120 &&& x3) = 0 → vp_in x5 30 ∧ (vp_in x4 30 ∧ ∀ M_141 : pt_M, M_141 = pt_st M_120 (k0 + 7) (Int32.toNatClampNeg x4) (M_120 (k0 + 7) (Int32.toNatClampNeg x5)) → ∀ x4_142 : Int32, x4_142 = x4 + 1 → wjX3_takeIfFree_145 k0 p1 Q R95 x3 x4_142 x5 M_141))))))
def lpX3_takeIfFree_95 (k0 : Nat) (p1 : Int32) (Q : pt_M → Prop)  : Nat → Int32 → Int32 → Int32 → pt_M → Prop
  | 0 => fun _ _ _ _ => False
  | n + 1 => fun x3 x4 x5 M => lbX3_takeIfFree_95 k0 p1 Q (lpX3_takeIfFree_95 k0 p1 Q n) x3 x4 x5 M
def wjX3_takeIfFree_83 (k0 : Nat) (p1 : Int32) (Q : pt_M → Prop) (R19 : Nat → Int32 → Int32 → pt_M → Prop) (q2 : Nat) (x3 : Int32) (x4 : Int32) (M : pt_M) : Prop :=
  ∀ x4_83 : Int32, x4_83 = x4 + 1 → R19 q2 x3 x4_83 M
def lbX3_takeIfFree_19 (k0 : Nat) (p1 : Int32) (Q : pt_M → Prop)  (R19 : Nat → Int32 → Int32 → pt_M → Prop) (q2 : Nat) (x3 : Int32) (x4 : Int32) (M : pt_M) : Prop :=
  ((M k0 10) ≤ x4 → ∃ n : Nat, lpX3_takeIfFree_95 k0 p1 Q n x3 0 0 M) ∧ (¬ (M k0 10) ≤ x4 → vp_in x4 30 ∧ (vp_in (M (k0 + 7) (Int32.toNatClampNeg x4)) 30 ∧ (wpX3_leftBy k0 (pt_t (M (k0 + 7) (Int32.toNatClampNeg x4))) M (fun (r_48 : Int32) (M_48 : pt_M) => ((r_48 &&& x3) = 0 → wjX3_takeIfFree_83 k0 p1 Q R19 q2 x3 x4 M_48) ∧ (¬ (r_48 &&& x3) = 0 → vp_in (M_48 (pt_t (M (k0 + 7) (Int32.toNatClampNeg x4))) 1) 20 ∧ (wpX7_has (M_48 (pt_s (M_48 (pt_t (M (k0 + 7) (Int32.toNatClampNeg x4))) 1)) 7) (M_48 q2 1) M_48 (fun (r_76 : Int32) (M_76 : pt_M) => (¬ r_76 = 0 → wjX3_takeIfFree_83 k0 p1 Q R19 q2 x3 x4 M_76) ∧ (r_76 = 0 → Q M_76))))))))
def lpX3_takeIfFree_19 (k0 : Nat) (p1 : Int32) (Q : pt_M → Prop)  : Nat → Nat → Int32 → Int32 → pt_M → Prop
  | 0 => fun _ _ _ _ => False
  | n + 1 => fun q2 x3 x4 M => lbX3_takeIfFree_19 k0 p1 Q (lpX3_takeIfFree_19 k0 p1 Q n) q2 x3 x4 M
def wpX3_takeIfFree (k0 : Nat) (p1 : Int32) (M : pt_M) (Q : pt_M → Prop) : Prop :=
  vp_in p1 30 ∧ (wpX3_leftBy k0 (pt_t p1) M (fun (r_12 : Int32) (M_12 : pt_M) => ∃ n : Nat, lpX3_takeIfFree_19 k0 p1 Q n (pt_t p1) r_12 0 M_12))
set_option maxHeartbeats 4000000 in
set_option maxRecDepth 100000 in
theorem mtX3_takeIfFree (l : Launch) (D : va_G) (cA : Nat → ClassId) (ad : Nat → Nat) (hI : pt_I ad) (sz : Nat) (k0 : Nat) (hk0 : pt_kd k0 = 3) (p1 : Int32) (M : pt_M) (Q : pt_M → Prop) (hw : wpX3_takeIfFree k0 p1 M Q) : Met l yX3_takeIfFree (Cond.code yX3_takeIfFree cX3_takeIfFree 6 none :: lw_all) ({ frames := 1, cells := 0, slots := 0, locals := 21 } : Room) (va_Pc [.ref (ad k0), .int p1] (pt_P D cA ad sz M)) (va_Qv Q (pt_B D cA ad) (pt_fr ad sz)) 0 0 (pt_fr ad sz) := by
  refine Met.ofW (cc := cX3_takeIfFree) (maxL := 6) (ret := none) (by decide) rfl ?_
  intro p e s m args below meth c s₁ B hml hv
  obtain ⟨rfl, hsz, hP, hK⟩ := hv
  have hx := B.exec
  have hb := B.bytes
  have hr := B.returns
  have hts0 := atoms_spec (ws := (Cond.code yX3_takeIfFree cX3_takeIfFree 6 none :: lw_all)) B.pre
  have hown : s.vm.findClass RX3 = some m.cls := findClass_of_methodNamed B.named
  have hlocks := B.notSynchronized
  subst hsz
  have F : pt_F p m c cX3_takeIfFree 6 s _ RX3 D cA := ⟨⟨hx, hb, hml, hown, fun w h => hts0 w (List.mem_cons_of_mem _ h)⟩, hK⟩
  have hD : ∀ M, va_D (pt_fr ad s.heap.size) (pt_W cA ad M) := pt_D hI (fun k h => Or.inl ⟨k, h, rfl⟩)
  have hS : va_S (pt_fr ad s.heap.size) s.heap s.heap [] := va_S.rf
  have hl := lv_entry ([.ref (ad k0), .int p1]) (n := 6) (Nat.le_of_ble_eq_true rfl)
  rw [lg_entry_eq]
  generalize (lg_sl ([.ref (ad k0), .int p1]) ++ List.replicate (6 - (lg_sl ([.ref (ad k0), .int p1])).length) Slot.unset).toArray = ls at hl ⊢
  have hl : lv_has ls 6 [(0, .ref (ad k0)), (1, .int p1)] := hl
  have L95 : ∀ (n95 : Nat) (x3 : Int32) (x4 : Int32) (x5 : Int32) (M : pt_M) (H : Heap) (locs : List Loc) (ls : Array Slot), lpX3_takeIfFree_95 k0 p1 Q n95 x3 x4 x5 M → va_P D pt_cl (pt_W cA ad M) H → va_S (pt_fr ad s.heap.size) s.heap H locs → lv_has ls 6 [(0, .ref (ad k0)), (1, .int p1), (3, .int x3), (4, .int x4), (5, .int x5)] → W p l e (headSpec (Cond.code yX3_takeIfFree cX3_takeIfFree 6 none :: lw_all) ({ frames := 1, cells := 0, slots := 0, locals := 21 } : Room)).room s m ([.ref (ad k0), .int p1] : List Value).toArray below meth c H locs 0 0 (MQ below (va_Qv Q (pt_B D cA ad) (pt_fr ad s.heap.size)) ([.ref (ad k0), .int p1] : List Value).toArray s 0 0 (pt_fr ad s.heap.size)) (F0 m 95 ls []) := by
    intro n95
    induction n95 with
    | zero => intro x3 x4 x5 M H locs ls hw; exact hw.elim
    | succ n95 ih95 =>
      have J145 : ∀ (x3 : Int32) (x4 : Int32) (x5 : Int32) (M : pt_M) (H : Heap) (locs : List Loc) (ls : Array Slot), wjX3_takeIfFree_145 k0 p1 Q (lpX3_takeIfFree_95 k0 p1 Q n95) x3 x4 x5 M → va_P D pt_cl (pt_W cA ad M) H → va_S (pt_fr ad s.heap.size) s.heap H locs → lv_has ls 6 [(0, .ref (ad k0)), (1, .int p1), (3, .int x3), (4, .int x4), (5, .int x5)] → W p l e (headSpec (Cond.code yX3_takeIfFree cX3_takeIfFree 6 none :: lw_all) ({ frames := 1, cells := 0, slots := 0, locals := 21 } : Room)).room s m ([.ref (ad k0), .int p1] : List Value).toArray below meth c H locs 0 0 (MQ below (va_Qv Q (pt_B D cA ad) (pt_fr ad s.heap.size)) ([.ref (ad k0), .int p1] : List Value).toArray s 0 0 (pt_fr ad s.heap.size)) (F0 m 145 ls []) := by
        intro x3 x4 x5 M H locs ls hw hP hS hl
        unfold wjX3_takeIfFree_145 at hw
        obtain ⟨x5_145, ex5_145⟩ : ∃ y : Int32, y = x5 + 1 := ⟨_, rfl⟩
        replace hw := hw x5_145 ex5_145
        refine lv_iinc (v := x5_145) (lv' := [(5, .int x5_145), (0, .ref (ad k0)), (1, .int p1), (3, .int x3), (4, .int x4)]) hx hb dX3_takeIfFree_145 hl (k := 4) rfl (by rw [ex5_145]; rfl) (by decide) rfl (fun ls hl => ?_)
        refine lv_goto (tgt := 95) hx hb dX3_takeIfFree_148 (by decide) ?_
        exact ih95 x3 x4 x5_145 M _ _ _ hw hP hS (lv_sub hl [1, 2, 3, 4, 0] rfl)
      intro x3 x4 x5 M H locs ls hw hP hS hl
      replace hw : lbX3_takeIfFree_95 k0 p1 Q (lpX3_takeIfFree_95 k0 p1 Q n95) x3 x4 x5 M := hw
      unfold lbX3_takeIfFree_95 at hw
      refine lv_iload hx hb dX3_takeIfFree_95 (lv_at hl 4 rfl) ?_
      refine lv_aload_n hx hb dX3_takeIfFree_97 rfl (lv_at hl 0 rfl) ?_
      refine pt_get F hP (pt_c3 _ hk0) (pt_l3 hk0) inX3 rfl 10 (by decide) kw_306 rfl rfl dX3_takeIfFree_98 ?_
      refine lv_icmp_ge (tgt := 151) hx hb dX3_takeIfFree_101 (by decide) (fun hc101 => ?_) (fun hc101 => ?_)
      · replace hw := hw.1 hc101
        refine lv_aload_n hx hb dX3_takeIfFree_151 rfl (lv_at hl 0 rfl) ?_
        refine pt_get F hP (pt_c3 _ hk0) (pt_l3 hk0) inX3 rfl 9 (by decide) kw_305 rfl rfl dX3_takeIfFree_152 ?_
        refine lv_iload hx hb dX3_takeIfFree_155 (lv_at hl 3 rfl) ?_
        refine lv_iload_n hx hb dX3_takeIfFree_157 rfl (lv_at hl 1 rfl) ?_
        have hv158 := hw.1
        replace hw := hw.2
        refine pt_iast F hP hD hS (pt_3t hk0) hv158 dX3_takeIfFree_158 (fun M_158 H locs eM_158 hP hS => ?_)
        replace hw := hw M_158 eM_158
        refine lv_aload_n hx hb dX3_takeIfFree_159 rfl (lv_at hl 0 rfl) ?_
        refine lv_iload hx hb dX3_takeIfFree_160 (lv_at hl 3 rfl) ?_
        refine lv_iconst (v := 1) hx hb dX3_takeIfFree_162 (by decide) ?_
        refine lv_iadd hx hb dX3_takeIfFree_163 ?_
        refine pt_put F hP hD hS (pt_c3 _ hk0) (pt_l3 hk0) inX3 tyX3 tyX3_ok nmX3 rfl 10 (by decide) kw_306 rfl rfl rfl rfl (Nat.le_of_ble_eq_true rfl) (pt_c3 _ hk0) dX3_takeIfFree_164 (fun M_164 H locs eM_164 hP hS => ?_)
        replace hw := hw M_164 eM_164
        exact W.vret hx hb hr (fun t ht hW => ⟨⟨M_164, rfl, hw, by unfold pt_B; rw [ht]; exact hP⟩, hS.F ht⟩) hS.2.2 dX3_takeIfFree_167
      · replace hw := hw.2 hc101
        refine lv_aload_n hx hb dX3_takeIfFree_104 rfl (lv_at hl 0 rfl) ?_
        refine lv_aload_n hx hb dX3_takeIfFree_105 rfl (lv_at hl 0 rfl) ?_
        refine pt_get F hP (pt_c3 _ hk0) (pt_l3 hk0) inX3 rfl 0 (by decide) kw_289 rfl rfl dX3_takeIfFree_106 ?_
        refine pt_get F hP (pt_c1 _ pt_k1) (pt_l1 pt_k1) inX1 rfl 1 (by decide) kw_227 rfl rfl dX3_takeIfFree_109 ?_
        refine lv_aload_n hx hb dX3_takeIfFree_112 rfl (lv_at hl 0 rfl) ?_
        refine pt_get F hP (pt_c3 _ hk0) (pt_l3 hk0) inX3 rfl 9 (by decide) kw_305 rfl rfl dX3_takeIfFree_113 ?_
        refine lv_iload hx hb dX3_takeIfFree_116 (lv_at hl 4 rfl) ?_
        have hv118 := hw.1
        replace hw := hw.2
        refine pt_iald F hP (pt_3t hk0) hv118 dX3_takeIfFree_118 ?_
        have hv119 := hw.1
        replace hw := hw.2
        refine pt_aldt F hP hv119 dX3_takeIfFree_119 ?_
        refine pt_calli (pt_runV (n := 1) (As := [.ref (ad (pt_t (M (k0 + 7) (Int32.toNatClampNeg x5))))]) (rest := []) F hP (pt_c3 _ hk0) (pt_l3 hk0) rfl (mtX3_leftBy l D cA ad hI _ k0 hk0 (pt_t (M (k0 + 7) (Int32.toNatClampNeg x5))) (pt_kt hv119) M _ hw) kw_793 kw_790 kw_57 kw_792 kw_15 ⟨by decide, by decide, by decide +kernel⟩ ⟨rfl, rfl, Nat.le_of_ble_eq_true rfl, Nat.le_of_ble_eq_true rfl⟩ rfl hl.1 rfl (Nat.le_of_ble_eq_true rfl) dX3_takeIfFree_120 ⟨Nat.zero_le _, Nat.zero_le _⟩) hS (fun _ h => h) (fun r_120 M_120 H locs hw hP hS _ _ => ?_)
        refine lv_iload_n hx hb dX3_takeIfFree_123 rfl (lv_at hl 2 rfl) ?_
        refine lv_iand hx hb dX3_takeIfFree_124 ?_
        refine lv_if_ne (tgt := 145) hx hb dX3_takeIfFree_125 (by decide) (fun hc125 => ?_) (fun hc125 => ?_)
        · replace hw := hw.1 hc125
          exact J145 x3 x4 x5 M_120 _ _ _ hw hP hS (lv_sub hl [0, 1, 2, 3, 4] rfl)
        · replace hw := hw.2 hc125
          refine lv_aload_n hx hb dX3_takeIfFree_128 rfl (lv_at hl 0 rfl) ?_
          refine pt_get F hP (pt_c3 _ hk0) (pt_l3 hk0) inX3 rfl 9 (by decide) kw_305 rfl rfl dX3_takeIfFree_129 ?_
          refine lv_iload hx hb dX3_takeIfFree_132 (lv_at hl 3 rfl) ?_
          refine lv_aload_n hx hb dX3_takeIfFree_134 rfl (lv_at hl 0 rfl) ?_
          refine pt_get F hP (pt_c3 _ hk0) (pt_l3 hk0) inX3 rfl 9 (by decide) kw_305 rfl rfl dX3_takeIfFree_135 ?_
          refine lv_iload hx hb dX3_takeIfFree_138 (lv_at hl 4 rfl) ?_
          have hv140 := hw.1
          replace hw := hw.2
          refine pt_iald F hP (pt_3t hk0) hv140 dX3_takeIfFree_140 ?_
          have hv141 := hw.1
          replace hw := hw.2
          refine pt_iast F hP hD hS (pt_3t hk0) hv141 dX3_takeIfFree_141 (fun M_141 H locs eM_141 hP hS => ?_)
          replace hw := hw M_141 eM_141
          obtain ⟨x4_142, ex4_142⟩ : ∃ y : Int32, y = x4 + 1 := ⟨_, rfl⟩
          replace hw := hw x4_142 ex4_142
          refine lv_iinc (v := x4_142) (lv' := [(4, .int x4_142), (0, .ref (ad k0)), (1, .int p1), (3, .int x3), (5, .int x5)]) hx hb dX3_takeIfFree_142 hl (k := 3) rfl (by rw [ex4_142]; rfl) (by decide) rfl (fun ls hl => ?_)
          exact J145 x3 x4_142 x5 M_141 _ _ _ hw hP hS (lv_sub hl [1, 2, 3, 0, 4] rfl)
  have L19 : ∀ (n19 : Nat) (q2 : Nat) (hq2 : pt_kd q2 = 6) (x3 : Int32) (x4 : Int32) (M : pt_M) (H : Heap) (locs : List Loc) (ls : Array Slot), lpX3_takeIfFree_19 k0 p1 Q n19 q2 x3 x4 M → va_P D pt_cl (pt_W cA ad M) H → va_S (pt_fr ad s.heap.size) s.heap H locs → lv_has ls 6 [(0, .ref (ad k0)), (1, .int p1), (2, .ref (ad q2)), (3, .int x3), (4, .int x4)] → W p l e (headSpec (Cond.code yX3_takeIfFree cX3_takeIfFree 6 none :: lw_all) ({ frames := 1, cells := 0, slots := 0, locals := 21 } : Room)).room s m ([.ref (ad k0), .int p1] : List Value).toArray below meth c H locs 0 0 (MQ below (va_Qv Q (pt_B D cA ad) (pt_fr ad s.heap.size)) ([.ref (ad k0), .int p1] : List Value).toArray s 0 0 (pt_fr ad s.heap.size)) (F0 m 19 ls []) := by
    intro n19
    induction n19 with
    | zero => intro q2 hq2 x3 x4 M H locs ls hw; exact hw.elim
    | succ n19 ih19 =>
      have J83 : ∀ (q2 : Nat) (hq2 : pt_kd q2 = 6) (x3 : Int32) (x4 : Int32) (M : pt_M) (H : Heap) (locs : List Loc) (ls : Array Slot), wjX3_takeIfFree_83 k0 p1 Q (lpX3_takeIfFree_19 k0 p1 Q n19) q2 x3 x4 M → va_P D pt_cl (pt_W cA ad M) H → va_S (pt_fr ad s.heap.size) s.heap H locs → lv_has ls 6 [(0, .ref (ad k0)), (1, .int p1), (2, .ref (ad q2)), (3, .int x3), (4, .int x4)] → W p l e (headSpec (Cond.code yX3_takeIfFree cX3_takeIfFree 6 none :: lw_all) ({ frames := 1, cells := 0, slots := 0, locals := 21 } : Room)).room s m ([.ref (ad k0), .int p1] : List Value).toArray below meth c H locs 0 0 (MQ below (va_Qv Q (pt_B D cA ad) (pt_fr ad s.heap.size)) ([.ref (ad k0), .int p1] : List Value).toArray s 0 0 (pt_fr ad s.heap.size)) (F0 m 83 ls []) := by
        intro q2 hq2 x3 x4 M H locs ls hw hP hS hl
        unfold wjX3_takeIfFree_83 at hw
        obtain ⟨x4_83, ex4_83⟩ : ∃ y : Int32, y = x4 + 1 := ⟨_, rfl⟩
        replace hw := hw x4_83 ex4_83
        refine lv_iinc (v := x4_83) (lv' := [(4, .int x4_83), (0, .ref (ad k0)), (1, .int p1), (2, .ref (ad q2)), (3, .int x3)]) hx hb dX3_takeIfFree_83 hl (k := 4) rfl (by rw [ex4_83]; rfl) (by decide) rfl (fun ls hl => ?_)
        refine lv_goto (tgt := 19) hx hb dX3_takeIfFree_86 (by decide) ?_
        exact ih19 q2 hq2 x3 x4_83 M _ _ _ hw hP hS (lv_sub hl [1, 2, 3, 4, 0] rfl)
      intro q2 hq2 x3 x4 M H locs ls hw hP hS hl
      replace hw : lbX3_takeIfFree_19 k0 p1 Q (lpX3_takeIfFree_19 k0 p1 Q n19) q2 x3 x4 M := hw
      unfold lbX3_takeIfFree_19 at hw
      refine lv_iload hx hb dX3_takeIfFree_19 (lv_at hl 4 rfl) ?_
      refine lv_aload_n hx hb dX3_takeIfFree_21 rfl (lv_at hl 0 rfl) ?_
      refine pt_get F hP (pt_c3 _ hk0) (pt_l3 hk0) inX3 rfl 10 (by decide) kw_306 rfl rfl dX3_takeIfFree_22 ?_
      refine lv_icmp_ge (tgt := 89) hx hb dX3_takeIfFree_25 (by decide) (fun hc25 => ?_) (fun hc25 => ?_)
      · replace hw := hw.1 hc25
        refine lv_iconst (v := 0) hx hb dX3_takeIfFree_89 (by decide) ?_
        refine lv_istore (lv' := [(4, .int 0), (0, .ref (ad k0)), (1, .int p1), (2, .ref (ad q2)), (3, .int x3)]) hx hb dX3_takeIfFree_90 hl (by decide) rfl (fun ls hl => ?_)
        refine lv_iconst (v := 0) hx hb dX3_takeIfFree_92 (by decide) ?_
        refine lv_istore (lv' := [(5, .int 0), (4, .int 0), (0, .ref (ad k0)), (1, .int p1), (2, .ref (ad q2)), (3, .int x3)]) hx hb dX3_takeIfFree_93 hl (by decide) rfl (fun ls hl => ?_)
        obtain ⟨n_, hw⟩ := hw
        exact L95 n_ x3 0 0 M _ _ _ hw hP hS (lv_sub hl [2, 3, 5, 1, 0] rfl)
      · replace hw := hw.2 hc25
        refine lv_aload_n hx hb dX3_takeIfFree_28 rfl (lv_at hl 0 rfl) ?_
        refine pt_get F hP (pt_c3 _ hk0) (pt_l3 hk0) inX3 rfl 0 (by decide) kw_289 rfl rfl dX3_takeIfFree_29 ?_
        refine pt_get F hP (pt_c1 _ pt_k1) (pt_l1 pt_k1) inX1 rfl 1 (by decide) kw_227 rfl rfl dX3_takeIfFree_32 ?_
        refine lv_aload_n hx hb dX3_takeIfFree_35 rfl (lv_at hl 0 rfl) ?_
        refine pt_get F hP (pt_c3 _ hk0) (pt_l3 hk0) inX3 rfl 9 (by decide) kw_305 rfl rfl dX3_takeIfFree_36 ?_
        refine lv_iload hx hb dX3_takeIfFree_39 (lv_at hl 4 rfl) ?_
        have hv41 := hw.1
        replace hw := hw.2
        refine pt_iald F hP (pt_3t hk0) hv41 dX3_takeIfFree_41 ?_
        have hv42 := hw.1
        replace hw := hw.2
        refine pt_aldt F hP hv42 dX3_takeIfFree_42 ?_
        refine lv_astore (lv' := [(5, .ref (ad (pt_t (M (k0 + 7) (Int32.toNatClampNeg x4))))), (0, .ref (ad k0)), (1, .int p1), (2, .ref (ad q2)), (3, .int x3), (4, .int x4)]) hx hb dX3_takeIfFree_43 hl (by decide) rfl (fun ls hl => ?_)
        refine lv_aload_n hx hb dX3_takeIfFree_45 rfl (lv_at hl 1 rfl) ?_
        refine lv_aload hx hb dX3_takeIfFree_46 (lv_at hl 0 rfl) ?_
        refine pt_calli (pt_runV (n := 1) (As := [.ref (ad (pt_t (M (k0 + 7) (Int32.toNatClampNeg x4))))]) (rest := []) F hP (pt_c3 _ hk0) (pt_l3 hk0) rfl (mtX3_leftBy l D cA ad hI _ k0 hk0 (pt_t (M (k0 + 7) (Int32.toNatClampNeg x4))) (pt_kt hv42) M _ hw) kw_793 kw_790 kw_57 kw_792 kw_15 ⟨by decide, by decide, by decide +kernel⟩ ⟨rfl, rfl, Nat.le_of_ble_eq_true rfl, Nat.le_of_ble_eq_true rfl⟩ rfl hl.1 rfl (Nat.le_of_ble_eq_true rfl) dX3_takeIfFree_48 ⟨Nat.zero_le _, Nat.zero_le _⟩) hS (fun _ h => h) (fun r_48 M_48 H locs hw hP hS _ _ => ?_)
        refine lv_iload_n hx hb dX3_takeIfFree_51 rfl (lv_at hl 4 rfl) ?_
        refine lv_iand hx hb dX3_takeIfFree_52 ?_
        refine lv_if_eq (tgt := 83) hx hb dX3_takeIfFree_53 (by decide) (fun hc53 => ?_) (fun hc53 => ?_)
        · replace hw := hw.1 hc53
          exact J83 q2 hq2 x3 x4 M_48 _ _ _ hw hP hS (lv_sub hl [1, 2, 3, 4, 5] rfl)
        · replace hw := hw.2 hc53
          refine lv_aload_n hx hb dX3_takeIfFree_56 rfl (lv_at hl 1 rfl) ?_
          refine pt_get F hP (pt_c3 _ hk0) (pt_l3 hk0) inX3 rfl 0 (by decide) kw_289 rfl rfl dX3_takeIfFree_57 ?_
          refine pt_get F hP (pt_c1 _ pt_k1) (pt_l1 pt_k1) inX1 rfl 0 (by decide) kw_224 rfl rfl dX3_takeIfFree_60 ?_
          refine lv_aload hx hb dX3_takeIfFree_63 (lv_at hl 0 rfl) ?_
          refine pt_get F hP (pt_c6 _ (pt_kt hv42)) (pt_l6 (pt_kt hv42)) inX6 rfl 1 (by decide) kw_186 rfl rfl dX3_takeIfFree_65 ?_
          have hv68 := hw.1
          replace hw := hw.2
          refine pt_alds F hP hv68 dX3_takeIfFree_68 ?_
          refine pt_get F hP (pt_c5 _ (pt_ks hv68)) (pt_l5 (pt_ks hv68)) inX5 rfl 7 (by decide) kw_153 rfl rfl dX3_takeIfFree_69 ?_
          refine lv_aload_n hx hb dX3_takeIfFree_72 rfl (lv_at hl 3 rfl) ?_
          refine pt_get F hP (pt_c6 _ hq2) (pt_l6 hq2) inX6 rfl 1 (by decide) kw_186 rfl rfl dX3_takeIfFree_73 ?_
          refine pt_calli (pt_runSN (n := 2) (As := [.int (M_48 (pt_s (M_48 (pt_t (M (k0 + 7) (Int32.toNatClampNeg x4))) 1)) 7), .int (M_48 q2 1)]) (rest := []) F hP (mtX7_has l D cA ad hI _ (M_48 (pt_s (M_48 (pt_t (M (k0 + 7) (Int32.toNatClampNeg x4))) 1)) 7) (M_48 q2 1) M_48 _ hw) kw_449 kw_724 kw_52 kw_448 ⟨by decide, by decide, by decide +kernel⟩ ⟨rfl, rfl, Nat.le_of_ble_eq_true rfl, Nat.le_of_ble_eq_true rfl⟩ rfl hl.1 rfl (Nat.le_of_ble_eq_true rfl) dX3_takeIfFree_76 ⟨Nat.zero_le _, Nat.zero_le _⟩) hS (fun _ h => h) (fun r_76 M_76 H locs hw hP hS _ _ => ?_)
          refine lv_if_ne (tgt := 83) hx hb dX3_takeIfFree_79 (by decide) (fun hc79 => ?_) (fun hc79 => ?_)
          · replace hw := hw.1 hc79
            exact J83 q2 hq2 x3 x4 M_76 _ _ _ hw hP hS (lv_sub hl [1, 2, 3, 4, 5] rfl)
          · replace hw := hw.2 hc79
            exact W.vret hx hb hr (fun t ht hW => ⟨⟨M_76, rfl, hw, by unfold pt_B; rw [ht]; exact hP⟩, hS.F ht⟩) hS.2.2 dX3_takeIfFree_82
  unfold wpX3_takeIfFree at hw
  refine lv_aload_n hx hb dX3_takeIfFree_0 rfl (lv_at hl 0 rfl) ?_
  refine pt_get F hP (pt_c3 _ hk0) (pt_l3 hk0) inX3 rfl 0 (by decide) kw_289 rfl rfl dX3_takeIfFree_1 ?_
  refine pt_get F hP (pt_c1 _ pt_k1) (pt_l1 pt_k1) inX1 rfl 1 (by decide) kw_227 rfl rfl dX3_takeIfFree_4 ?_
  refine lv_iload_n hx hb dX3_takeIfFree_7 rfl (lv_at hl 1 rfl) ?_
  have hv8 := hw.1
  replace hw := hw.2
  refine pt_aldt F hP hv8 dX3_takeIfFree_8 ?_
  refine lv_astore_n (lv' := [(2, .ref (ad (pt_t p1))), (0, .ref (ad k0)), (1, .int p1)]) hx hb dX3_takeIfFree_9 rfl hl (by decide) rfl (fun ls hl => ?_)
  refine lv_aload_n hx hb dX3_takeIfFree_10 rfl (lv_at hl 1 rfl) ?_
  refine lv_aload_n hx hb dX3_takeIfFree_11 rfl (lv_at hl 0 rfl) ?_
  refine pt_calli (pt_runV (n := 1) (As := [.ref (ad (pt_t p1))]) (rest := []) F hP (pt_c3 _ hk0) (pt_l3 hk0) rfl (mtX3_leftBy l D cA ad hI _ k0 hk0 (pt_t p1) (pt_kt hv8) M _ hw) kw_793 kw_790 kw_57 kw_792 kw_15 ⟨by decide, by decide, by decide +kernel⟩ ⟨rfl, rfl, Nat.le_of_ble_eq_true rfl, Nat.le_of_ble_eq_true rfl⟩ rfl hl.1 rfl (Nat.le_of_ble_eq_true rfl) dX3_takeIfFree_12 ⟨Nat.zero_le _, Nat.zero_le _⟩) hS (fun _ h => h) (fun r_12 M_12 H locs hw hP hS _ _ => ?_)
  refine lv_istore_n (lv' := [(3, .int r_12), (2, .ref (ad (pt_t p1))), (0, .ref (ad k0)), (1, .int p1)]) hx hb dX3_takeIfFree_15 rfl hl (by decide) rfl (fun ls hl => ?_)
  refine lv_iconst (v := 0) hx hb dX3_takeIfFree_16 (by decide) ?_
  refine lv_istore (lv' := [(4, .int 0), (3, .int r_12), (2, .ref (ad (pt_t p1))), (0, .ref (ad k0)), (1, .int p1)]) hx hb dX3_takeIfFree_17 hl (by decide) rfl (fun ls hl => ?_)
  obtain ⟨n_, hw⟩ := hw
  exact L19 n_ (pt_t p1) (pt_kt hv8) r_12 0 M_12 _ _ _ hw hP hS (lv_sub hl [3, 4, 2, 1, 0] rfl)
end
section
-- ===== X3_choose
def wjX3_choose_89 (k0 : Nat) (p1 : Int32) (Q : pt_M → Prop) (R26 : Int32 → Int32 → Int32 → pt_M → Prop) (x2 : Int32) (x3 : Int32) (x4 : Int32) (M : pt_M) : Prop :=
  ∀ x4_89 : Int32, x4_89 = x4 + 1 → R26 x2 x3 x4_89 M
def wjX3_choose_58 (k0 : Nat) (p1 : Int32) (Q : pt_M → Prop) (R26 : Int32 → Int32 → Int32 → pt_M → Prop) (x2 : Int32) (x3 : Int32) (x4 : Int32) (xs0 : Int32) (M : pt_M) : Prop :=
  (xs0 = (-1) → wjX3_choose_89 k0 p1 Q R26 x2 x3 x4 M) ∧ (¬ xs0 = (-1) → wpX7_has x2 xs0 M (fun (r_69 : Int32) (M_69 : pt_M) => (¬ r_69 = 0 → wjX3_choose_89 k0 p1 Q R26 x2 x3 x4 M_69) ∧ (r_69 = 0 → wpX7_setOf xs0 M_69 (fun (r_78 : Int32) (M_78 : pt_M) => ∀ x2_82 : Int32, x2_82 = (x2 ||| r_78) → wpX3_takeIfFree k0 xs0 M_78 (fun (M_86 : pt_M) => wjX3_choose_89 k0 p1 Q R26 x2_82 x3 x4 M_86)))))
def lbX3_choose_26 (k0 : Nat) (p1 : Int32) (Q : pt_M → Prop)  (R26 : Int32 → Int32 → Int32 → pt_M → Prop) (x2 : Int32) (x3 : Int32) (x4 : Int32) (M : pt_M) : Prop :=
  ((M 1 3) ≤ x4 → Q M) ∧ (¬ (M 1 3) ≤ x4 → wpX7_has x3 x4 M (fun (r_41 : Int32) (M_41 : pt_M) => (r_41 = 0 → wjX3_choose_58 k0 p1 Q R26 x2 x3 x4 (-1) M_41) ∧ (¬ r_41 = 0 → wpX3_nearestOpen k0 x4 p1 M_41 (fun (r_51 : Int32) (M_51 : pt_M) => wjX3_choose_58 k0 p1 Q R26 x2 x3 x4 r_51 M_51))))
def lpX3_choose_26 (k0 : Nat) (p1 : Int32) (Q : pt_M → Prop)  : Nat → Int32 → Int32 → Int32 → pt_M → Prop
  | 0 => fun _ _ _ _ => False
  | n + 1 => fun x2 x3 x4 M => lbX3_choose_26 k0 p1 Q (lpX3_choose_26 k0 p1 Q n) x2 x3 x4 M
def wpX3_choose (k0 : Nat) (p1 : Int32) (M : pt_M) (Q : pt_M → Prop) : Prop :=
  ∀ M_2 : pt_M, M_2 = pt_st M k0 10 0 → ∀ x3_22 : Int32, x3_22 = ((M_2 1 5) &&& (M_2 (k0 + 1) 3)) → ∃ n : Nat, lpX3_choose_26 k0 p1 Q n 0 x3_22 0 M_2
set_option maxHeartbeats 4000000 in
set_option maxRecDepth 100000 in
theorem mtX3_choose (l : Launch) (D : va_G) (cA : Nat → ClassId) (ad : Nat → Nat) (hI : pt_I ad) (sz : Nat) (k0 : Nat) (hk0 : pt_kd k0 = 3) (p1 : Int32) (M : pt_M) (Q : pt_M → Prop) (hw : wpX3_choose k0 p1 M Q) : Met l yX3_choose (Cond.code yX3_choose cX3_choose 6 none :: lw_all) ({ frames := 3, cells := 0, slots := 0, locals := 64 } : Room) (va_Pc [.ref (ad k0), .int p1] (pt_P D cA ad sz M)) (va_Qv Q (pt_B D cA ad) (pt_fr ad sz)) 0 0 (pt_fr ad sz) := by
  refine Met.ofW (cc := cX3_choose) (maxL := 6) (ret := none) (by decide) rfl ?_
  intro p e s m args below meth c s₁ B hml hv
  obtain ⟨rfl, hsz, hP, hK⟩ := hv
  have hx := B.exec
  have hb := B.bytes
  have hr := B.returns
  have hts0 := atoms_spec (ws := (Cond.code yX3_choose cX3_choose 6 none :: lw_all)) B.pre
  have hown : s.vm.findClass RX3 = some m.cls := findClass_of_methodNamed B.named
  have hlocks := B.notSynchronized
  subst hsz
  have F : pt_F p m c cX3_choose 6 s _ RX3 D cA := ⟨⟨hx, hb, hml, hown, fun w h => hts0 w (List.mem_cons_of_mem _ h)⟩, hK⟩
  have hD : ∀ M, va_D (pt_fr ad s.heap.size) (pt_W cA ad M) := pt_D hI (fun k h => Or.inl ⟨k, h, rfl⟩)
  have hS : va_S (pt_fr ad s.heap.size) s.heap s.heap [] := va_S.rf
  have hl := lv_entry ([.ref (ad k0), .int p1]) (n := 6) (Nat.le_of_ble_eq_true rfl)
  rw [lg_entry_eq]
  generalize (lg_sl ([.ref (ad k0), .int p1]) ++ List.replicate (6 - (lg_sl ([.ref (ad k0), .int p1])).length) Slot.unset).toArray = ls at hl ⊢
  have hl : lv_has ls 6 [(0, .ref (ad k0)), (1, .int p1)] := hl
  have L26 : ∀ (n26 : Nat) (x2 : Int32) (x3 : Int32) (x4 : Int32) (M : pt_M) (H : Heap) (locs : List Loc) (ls : Array Slot), lpX3_choose_26 k0 p1 Q n26 x2 x3 x4 M → va_P D pt_cl (pt_W cA ad M) H → va_S (pt_fr ad s.heap.size) s.heap H locs → lv_has ls 6 [(0, .ref (ad k0)), (1, .int p1), (2, .int x2), (3, .int x3), (4, .int x4)] → W p l e (headSpec (Cond.code yX3_choose cX3_choose 6 none :: lw_all) ({ frames := 3, cells := 0, slots := 0, locals := 64 } : Room)).room s m ([.ref (ad k0), .int p1] : List Value).toArray below meth c H locs 0 0 (MQ below (va_Qv Q (pt_B D cA ad) (pt_fr ad s.heap.size)) ([.ref (ad k0), .int p1] : List Value).toArray s 0 0 (pt_fr ad s.heap.size)) (F0 m 26 ls []) := by
    intro n26
    induction n26 with
    | zero => intro x2 x3 x4 M H locs ls hw; exact hw.elim
    | succ n26 ih26 =>
      have J89 : ∀ (x2 : Int32) (x3 : Int32) (x4 : Int32) (M : pt_M) (H : Heap) (locs : List Loc) (ls : Array Slot), wjX3_choose_89 k0 p1 Q (lpX3_choose_26 k0 p1 Q n26) x2 x3 x4 M → va_P D pt_cl (pt_W cA ad M) H → va_S (pt_fr ad s.heap.size) s.heap H locs → lv_has ls 6 [(0, .ref (ad k0)), (1, .int p1), (2, .int x2), (3, .int x3), (4, .int x4)] → W p l e (headSpec (Cond.code yX3_choose cX3_choose 6 none :: lw_all) ({ frames := 3, cells := 0, slots := 0, locals := 64 } : Room)).room s m ([.ref (ad k0), .int p1] : List Value).toArray below meth c H locs 0 0 (MQ below (va_Qv Q (pt_B D cA ad) (pt_fr ad s.heap.size)) ([.ref (ad k0), .int p1] : List Value).toArray s 0 0 (pt_fr ad s.heap.size)) (F0 m 89 ls []) := by
        intro x2 x3 x4 M H locs ls hw hP hS hl
        unfold wjX3_choose_89 at hw
        obtain ⟨x4_89, ex4_89⟩ : ∃ y : Int32, y = x4 + 1 := ⟨_, rfl⟩
        replace hw := hw x4_89 ex4_89
        refine lv_iinc (v := x4_89) (lv' := [(4, .int x4_89), (0, .ref (ad k0)), (1, .int p1), (2, .int x2), (3, .int x3)]) hx hb dX3_choose_89 hl (k := 4) rfl (by rw [ex4_89]; rfl) (by decide) rfl (fun ls hl => ?_)
        refine lv_goto (tgt := 26) hx hb dX3_choose_92 (by decide) ?_
        exact ih26 x2 x3 x4_89 M _ _ _ hw hP hS (lv_sub hl [1, 2, 3, 4, 0] rfl)
      have J58 : ∀ (x2 : Int32) (x3 : Int32) (x4 : Int32) (xs0 : Int32) (M : pt_M) (H : Heap) (locs : List Loc) (ls : Array Slot), wjX3_choose_58 k0 p1 Q (lpX3_choose_26 k0 p1 Q n26) x2 x3 x4 xs0 M → va_P D pt_cl (pt_W cA ad M) H → va_S (pt_fr ad s.heap.size) s.heap H locs → lv_has ls 6 [(0, .ref (ad k0)), (1, .int p1), (2, .int x2), (3, .int x3), (4, .int x4)] → W p l e (headSpec (Cond.code yX3_choose cX3_choose 6 none :: lw_all) ({ frames := 3, cells := 0, slots := 0, locals := 64 } : Room)).room s m ([.ref (ad k0), .int p1] : List Value).toArray below meth c H locs 0 0 (MQ below (va_Qv Q (pt_B D cA ad) (pt_fr ad s.heap.size)) ([.ref (ad k0), .int p1] : List Value).toArray s 0 0 (pt_fr ad s.heap.size)) (F0 m 58 ls [.int xs0]) := by
        intro x2 x3 x4 xs0 M H locs ls hw hP hS hl
        unfold wjX3_choose_58 at hw
        refine lv_istore (lv' := [(5, .int xs0), (0, .ref (ad k0)), (1, .int p1), (2, .int x2), (3, .int x3), (4, .int x4)]) hx hb dX3_choose_58 hl (by decide) rfl (fun ls hl => ?_)
        refine lv_iload hx hb dX3_choose_60 (lv_at hl 0 rfl) ?_
        refine lv_iconst (v := (-1)) hx hb dX3_choose_62 (by decide) ?_
        refine lv_icmp_eq (tgt := 89) hx hb dX3_choose_63 (by decide) (fun hc63 => ?_) (fun hc63 => ?_)
        · replace hw := hw.1 hc63
          exact J89 x2 x3 x4 M _ _ _ hw hP hS (lv_sub hl [1, 2, 3, 4, 5] rfl)
        · replace hw := hw.2 hc63
          refine lv_iload_n hx hb dX3_choose_66 rfl (lv_at hl 3 rfl) ?_
          refine lv_iload hx hb dX3_choose_67 (lv_at hl 0 rfl) ?_
          refine pt_calli (pt_runSN (n := 2) (As := [.int x2, .int xs0]) (rest := []) F hP (mtX7_has l D cA ad hI _ x2 xs0 M _ hw) kw_449 kw_724 kw_52 kw_448 ⟨by decide, by decide, by decide +kernel⟩ ⟨rfl, rfl, Nat.le_of_ble_eq_true rfl, Nat.le_of_ble_eq_true rfl⟩ rfl hl.1 rfl (Nat.le_of_ble_eq_true rfl) dX3_choose_69 ⟨Nat.zero_le _, Nat.zero_le _⟩) hS (fun _ h => h) (fun r_69 M_69 H locs hw hP hS _ _ => ?_)
          refine lv_if_ne (tgt := 89) hx hb dX3_choose_72 (by decide) (fun hc72 => ?_) (fun hc72 => ?_)
          · replace hw := hw.1 hc72
            exact J89 x2 x3 x4 M_69 _ _ _ hw hP hS (lv_sub hl [1, 2, 3, 4, 5] rfl)
          · replace hw := hw.2 hc72
            refine lv_iload_n hx hb dX3_choose_75 rfl (lv_at hl 3 rfl) ?_
            refine lv_iload hx hb dX3_choose_76 (lv_at hl 0 rfl) ?_
            refine pt_calli (pt_runSN (n := 1) (As := [.int xs0]) (rest := [.int x2]) F hP (mtX7_setOf l D cA ad hI _ xs0 M_69 _ hw) kw_103 kw_725 kw_52 kw_102 ⟨by decide, by decide, by decide +kernel⟩ ⟨rfl, rfl, Nat.le_of_ble_eq_true rfl, Nat.le_of_ble_eq_true rfl⟩ rfl hl.1 rfl (Nat.le_of_ble_eq_true rfl) dX3_choose_78 ⟨Nat.zero_le _, Nat.zero_le _⟩) hS (fun _ h => h) (fun r_78 M_78 H locs hw hP hS _ _ => ?_)
            refine lv_ior hx hb dX3_choose_81 ?_
            refine lv_topi (fun x2_82 ex2_82 => ?_)
            replace hw := hw x2_82 ex2_82
            refine lv_istore_n (lv' := [(2, .int x2_82), (5, .int xs0), (0, .ref (ad k0)), (1, .int p1), (3, .int x3), (4, .int x4)]) hx hb dX3_choose_82 rfl hl (by decide) rfl (fun ls hl => ?_)
            refine lv_aload_n hx hb dX3_choose_83 rfl (lv_at hl 2 rfl) ?_
            refine lv_iload hx hb dX3_choose_84 (lv_at hl 1 rfl) ?_
            refine pt_callv (pt_runV (n := 1) (As := [.int xs0]) (rest := []) F hP (pt_c3 _ hk0) (pt_l3 hk0) rfl (mtX3_takeIfFree l D cA ad hI _ k0 hk0 xs0 M_78 _ hw) kw_789 kw_786 kw_57 kw_788 kw_14 ⟨by decide, by decide, by decide +kernel⟩ ⟨rfl, rfl, Nat.le_of_ble_eq_true rfl, Nat.le_of_ble_eq_true rfl⟩ rfl hl.1 rfl (Nat.le_of_ble_eq_true rfl) dX3_choose_86 ⟨Nat.zero_le _, Nat.zero_le _⟩) hS (fun _ h => h) (fun M_86 H locs hw hP hS _ _ => ?_)
            exact J89 x2_82 x3 x4 M_86 _ _ _ hw hP hS (lv_sub hl [2, 3, 0, 4, 5] rfl)
      intro x2 x3 x4 M H locs ls hw hP hS hl
      replace hw : lbX3_choose_26 k0 p1 Q (lpX3_choose_26 k0 p1 Q n26) x2 x3 x4 M := hw
      unfold lbX3_choose_26 at hw
      refine lv_iload hx hb dX3_choose_26 (lv_at hl 4 rfl) ?_
      refine lv_aload_n hx hb dX3_choose_28 rfl (lv_at hl 0 rfl) ?_
      refine pt_get F hP (pt_c3 _ hk0) (pt_l3 hk0) inX3 rfl 0 (by decide) kw_289 rfl rfl dX3_choose_29 ?_
      refine pt_get F hP (pt_c1 _ pt_k1) (pt_l1 pt_k1) inX1 rfl 3 (by decide) kw_232 rfl rfl dX3_choose_32 ?_
      refine lv_icmp_ge (tgt := 95) hx hb dX3_choose_35 (by decide) (fun hc35 => ?_) (fun hc35 => ?_)
      · replace hw := hw.1 hc35
        exact W.vret hx hb hr (fun t ht hW => ⟨⟨M, rfl, hw, by unfold pt_B; rw [ht]; exact hP⟩, hS.F ht⟩) hS.2.2 dX3_choose_95
      · replace hw := hw.2 hc35
        refine lv_iload_n hx hb dX3_choose_38 rfl (lv_at hl 3 rfl) ?_
        refine lv_iload hx hb dX3_choose_39 (lv_at hl 4 rfl) ?_
        refine pt_calli (pt_runSN (n := 2) (As := [.int x3, .int x4]) (rest := []) F hP (mtX7_has l D cA ad hI _ x3 x4 M _ hw) kw_449 kw_724 kw_52 kw_448 ⟨by decide, by decide, by decide +kernel⟩ ⟨rfl, rfl, Nat.le_of_ble_eq_true rfl, Nat.le_of_ble_eq_true rfl⟩ rfl hl.1 rfl (Nat.le_of_ble_eq_true rfl) dX3_choose_41 ⟨Nat.zero_le _, Nat.zero_le _⟩) hS (fun _ h => h) (fun r_41 M_41 H locs hw hP hS _ _ => ?_)
        refine lv_if_eq (tgt := 57) hx hb dX3_choose_44 (by decide) (fun hc44 => ?_) (fun hc44 => ?_)
        · replace hw := hw.1 hc44
          refine lv_iconst (v := (-1)) hx hb dX3_choose_57 (by decide) ?_
          exact J58 x2 x3 x4 (-1) M_41 _ _ _ hw hP hS (lv_sub hl [0, 1, 2, 3, 4] rfl)
        · replace hw := hw.2 hc44
          refine lv_aload_n hx hb dX3_choose_47 rfl (lv_at hl 0 rfl) ?_
          refine lv_iload hx hb dX3_choose_48 (lv_at hl 4 rfl) ?_
          refine lv_iload_n hx hb dX3_choose_50 rfl (lv_at hl 1 rfl) ?_
          refine pt_calli (pt_runV (n := 2) (As := [.int x4, .int p1]) (rest := []) F hP (pt_c3 _ hk0) (pt_l3 hk0) rfl (mtX3_nearestOpen l D cA ad hI _ k0 hk0 x4 p1 M_41 _ hw) kw_781 kw_778 kw_57 kw_780 kw_13 ⟨by decide, by decide, by decide +kernel⟩ ⟨rfl, rfl, Nat.le_of_ble_eq_true rfl, Nat.le_of_ble_eq_true rfl⟩ rfl hl.1 rfl (Nat.le_of_ble_eq_true rfl) dX3_choose_51 ⟨Nat.zero_le _, Nat.zero_le _⟩) hS (fun _ h => h) (fun r_51 M_51 H locs hw hP hS _ _ => ?_)
          refine lv_goto (tgt := 58) hx hb dX3_choose_54 (by decide) ?_
          exact J58 x2 x3 x4 r_51 M_51 _ _ _ hw hP hS (lv_sub hl [0, 1, 2, 3, 4] rfl)
  unfold wpX3_choose at hw
  refine lv_aload_n hx hb dX3_choose_0 rfl (lv_at hl 0 rfl) ?_
  refine lv_iconst (v := 0) hx hb dX3_choose_1 (by decide) ?_
  refine pt_put F hP hD hS (pt_c3 _ hk0) (pt_l3 hk0) inX3 tyX3 tyX3_ok nmX3 rfl 10 (by decide) kw_306 rfl rfl rfl rfl (Nat.le_of_ble_eq_true rfl) (pt_c3 _ hk0) dX3_choose_2 (fun M_2 H locs eM_2 hP hS => ?_)
  replace hw := hw M_2 eM_2
  refine lv_iconst (v := 0) hx hb dX3_choose_5 (by decide) ?_
  refine lv_istore_n (lv' := [(2, .int 0), (0, .ref (ad k0)), (1, .int p1)]) hx hb dX3_choose_6 rfl hl (by decide) rfl (fun ls hl => ?_)
  refine lv_aload_n hx hb dX3_choose_7 rfl (lv_at hl 1 rfl) ?_
  refine pt_get F hP (pt_c3 _ hk0) (pt_l3 hk0) inX3 rfl 0 (by decide) kw_289 rfl rfl dX3_choose_8 ?_
  refine pt_get F hP (pt_c1 _ pt_k1) (pt_l1 pt_k1) inX1 rfl 5 (by decide) kw_237 rfl rfl dX3_choose_11 ?_
  refine lv_aload_n hx hb dX3_choose_14 rfl (lv_at hl 1 rfl) ?_
  refine pt_get F hP (pt_c3 _ hk0) (pt_l3 hk0) inX3 rfl 1 (by decide) kw_290 rfl rfl dX3_choose_15 ?_
  refine pt_get F hP (pt_c4 _ (pt_3s hk0)) (pt_l4 (pt_3s hk0)) inX4 rfl 3 (by decide) kw_278 rfl rfl dX3_choose_18 ?_
  refine lv_iand hx hb dX3_choose_21 ?_
  refine lv_topi (fun x3_22 ex3_22 => ?_)
  replace hw := hw x3_22 ex3_22
  refine lv_istore_n (lv' := [(3, .int x3_22), (2, .int 0), (0, .ref (ad k0)), (1, .int p1)]) hx hb dX3_choose_22 rfl hl (by decide) rfl (fun ls hl => ?_)
  refine lv_iconst (v := 0) hx hb dX3_choose_23 (by decide) ?_
  refine lv_istore (lv' := [(4, .int 0), (3, .int x3_22), (2, .int 0), (0, .ref (ad k0)), (1, .int p1)]) hx hb dX3_choose_24 hl (by decide) rfl (fun ls hl => ?_)
  obtain ⟨n_, hw⟩ := hw
  exact L26 n_ 0 x3_22 0 M_2 _ _ _ hw hP hS (lv_sub hl [3, 4, 2, 1, 0] rfl)
-- ===== X3_makeRecords
def wjX3_makeRecords_105 (k0 : Nat) (p1 : Int32) (Q : pt_M → Prop) (R2 : Int32 → pt_M → Prop) (x2 : Int32) (M : pt_M) : Prop :=
  ∀ x2_105 : Int32, x2_105 = x2 + 1 → R2 x2_105 M
def wjX3_makeRecords_84 (k0 : Nat) (p1 : Int32) (Q : pt_M → Prop) (R2 : Int32 → pt_M → Prop) (x2 : Int32) (xs0 : Int32) (M : pt_M) : Prop :=
  vp_in x2 20 ∧ ∀ M_104 : pt_M, M_104 = pt_st M ((k0 + 1) + 2) (Int32.toNatClampNeg x2) (xs0 &&& (M (k0 + 1) 3)) → wjX3_makeRecords_105 k0 p1 Q R2 x2 M_104
def lbX3_makeRecords_2 (k0 : Nat) (p1 : Int32) (Q : pt_M → Prop)  (R2 : Int32 → pt_M → Prop) (x2 : Int32) (M : pt_M) : Prop :=
  ((M 1 3) ≤ x2 → Q M) ∧ (¬ (M 1 3) ≤ x2 → vp_in x2 20 ∧ (wpX5_isMark (pt_s x2) M (fun (r_24 : Int32) (M_24 : pt_M) => (r_24 = 0 → wjX3_makeRecords_105 k0 p1 Q R2 x2 M_24) ∧ (¬ r_24 = 0 → wpX7_has p1 (M_24 (pt_s x2) 3) M_24 (fun (r_35 : Int32) (M_35 : pt_M) => (r_35 = 0 → wjX3_makeRecords_105 k0 p1 Q R2 x2 M_35) ∧ (¬ r_35 = 0 → vp_in (M_35 (pt_s x2) 3) 20 ∧ ((¬ (M_35 (pt_s x2) 2) = 3 → wjX3_makeRecords_84 k0 p1 Q R2 x2 ((M_35 (pt_s (M_35 (pt_s x2) 3)) 7) &&& (M_35 1 5)) M_35) ∧ ((M_35 (pt_s x2) 2) = 3 → wjX3_makeRecords_84 k0 p1 Q R2 x2 (M_35 (pt_s (M_35 (pt_s x2) 3)) 5) M_35))))))))
def lpX3_makeRecords_2 (k0 : Nat) (p1 : Int32) (Q : pt_M → Prop)  : Nat → Int32 → pt_M → Prop
  | 0 => fun _ _ => False
  | n + 1 => fun x2 M => lbX3_makeRecords_2 k0 p1 Q (lpX3_makeRecords_2 k0 p1 Q n) x2 M
def wpX3_makeRecords (k0 : Nat) (p1 : Int32) (M : pt_M) (Q : pt_M → Prop) : Prop :=
  ∃ n : Nat, lpX3_makeRecords_2 k0 p1 Q n 0 M
set_option maxHeartbeats 4000000 in
set_option maxRecDepth 100000 in
theorem mtX3_makeRecords (l : Launch) (D : va_G) (cA : Nat → ClassId) (ad : Nat → Nat) (hI : pt_I ad) (sz : Nat) (k0 : Nat) (hk0 : pt_kd k0 = 3) (p1 : Int32) (M : pt_M) (Q : pt_M → Prop) (hw : wpX3_makeRecords k0 p1 M Q) : Met l yX3_makeRecords (Cond.code yX3_makeRecords cX3_makeRecords 6 none :: lw_all) ({ frames := 1, cells := 0, slots := 0, locals := 21 } : Room) (va_Pc [.ref (ad k0), .int p1] (pt_P D cA ad sz M)) (va_Qv Q (pt_B D cA ad) (pt_fr ad sz)) 0 0 (pt_fr ad sz) := by
  refine Met.ofW (cc := cX3_makeRecords) (maxL := 6) (ret := none) (by decide) rfl ?_
  intro p e s m args below meth c s₁ B hml hv
  obtain ⟨rfl, hsz, hP, hK⟩ := hv
  have hx := B.exec
  have hb := B.bytes
  have hr := B.returns
  have hts0 := atoms_spec (ws := (Cond.code yX3_makeRecords cX3_makeRecords 6 none :: lw_all)) B.pre
  have hown : s.vm.findClass RX3 = some m.cls := findClass_of_methodNamed B.named
  have hlocks := B.notSynchronized
  subst hsz
  have F : pt_F p m c cX3_makeRecords 6 s _ RX3 D cA := ⟨⟨hx, hb, hml, hown, fun w h => hts0 w (List.mem_cons_of_mem _ h)⟩, hK⟩
  have hD : ∀ M, va_D (pt_fr ad s.heap.size) (pt_W cA ad M) := pt_D hI (fun k h => Or.inl ⟨k, h, rfl⟩)
  have hS : va_S (pt_fr ad s.heap.size) s.heap s.heap [] := va_S.rf
  have hl := lv_entry ([.ref (ad k0), .int p1]) (n := 6) (Nat.le_of_ble_eq_true rfl)
  rw [lg_entry_eq]
  generalize (lg_sl ([.ref (ad k0), .int p1]) ++ List.replicate (6 - (lg_sl ([.ref (ad k0), .int p1])).length) Slot.unset).toArray = ls at hl ⊢
  have hl : lv_has ls 6 [(0, .ref (ad k0)), (1, .int p1)] := hl
  have L2 : ∀ (n2 : Nat) (x2 : Int32) (M : pt_M) (H : Heap) (locs : List Loc) (ls : Array Slot), lpX3_makeRecords_2 k0 p1 Q n2 x2 M → va_P D pt_cl (pt_W cA ad M) H → va_S (pt_fr ad s.heap.size) s.heap H locs → lv_has ls 6 [(0, .ref (ad k0)), (1, .int p1), (2, .int x2)] → W p l e (headSpec (Cond.code yX3_makeRecords cX3_makeRecords 6 none :: lw_all) ({ frames := 1, cells := 0, slots := 0, locals := 21 } : Room)).room s m ([.ref (ad k0), .int p1] : List Value).toArray below meth c H locs 0 0 (MQ below (va_Qv Q (pt_B D cA ad) (pt_fr ad s.heap.size)) ([.ref (ad k0), .int p1] : List Value).toArray s 0 0 (pt_fr ad s.heap.size)) (F0 m 2 ls []) := by
    intro n2
    induction n2 with
    | zero => intro x2 M H locs ls hw; exact hw.elim
    | succ n2 ih2 =>
      have J105 : ∀ (x2 : Int32) (M : pt_M) (H : Heap) (locs : List Loc) (ls : Array Slot), wjX3_makeRecords_105 k0 p1 Q (lpX3_makeRecords_2 k0 p1 Q n2) x2 M → va_P D pt_cl (pt_W cA ad M) H → va_S (pt_fr ad s.heap.size) s.heap H locs → lv_has ls 6 [(0, .ref (ad k0)), (1, .int p1), (2, .int x2)] → W p l e (headSpec (Cond.code yX3_makeRecords cX3_makeRecords 6 none :: lw_all) ({ frames := 1, cells := 0, slots := 0, locals := 21 } : Room)).room s m ([.ref (ad k0), .int p1] : List Value).toArray below meth c H locs 0 0 (MQ below (va_Qv Q (pt_B D cA ad) (pt_fr ad s.heap.size)) ([.ref (ad k0), .int p1] : List Value).toArray s 0 0 (pt_fr ad s.heap.size)) (F0 m 105 ls []) := by
        intro x2 M H locs ls hw hP hS hl
        unfold wjX3_makeRecords_105 at hw
        obtain ⟨x2_105, ex2_105⟩ : ∃ y : Int32, y = x2 + 1 := ⟨_, rfl⟩
        replace hw := hw x2_105 ex2_105
        refine lv_iinc (v := x2_105) (lv' := [(2, .int x2_105), (0, .ref (ad k0)), (1, .int p1)]) hx hb dX3_makeRecords_105 hl (k := 2) rfl (by rw [ex2_105]; rfl) (by decide) rfl (fun ls hl => ?_)
        refine lv_goto (tgt := 2) hx hb dX3_makeRecords_108 (by decide) ?_
        exact ih2 x2_105 M _ _ _ hw hP hS (lv_sub hl [1, 2, 0] rfl)
      have J84 : ∀ (x2 : Int32) (xs0 : Int32) (M : pt_M) (H : Heap) (locs : List Loc) (ls : Array Slot), wjX3_makeRecords_84 k0 p1 Q (lpX3_makeRecords_2 k0 p1 Q n2) x2 xs0 M → va_P D pt_cl (pt_W cA ad M) H → va_S (pt_fr ad s.heap.size) s.heap H locs → lv_has ls 6 [(0, .ref (ad k0)), (1, .int p1), (2, .int x2)] → W p l e (headSpec (Cond.code yX3_makeRecords cX3_makeRecords 6 none :: lw_all) ({ frames := 1, cells := 0, slots := 0, locals := 21 } : Room)).room s m ([.ref (ad k0), .int p1] : List Value).toArray below meth c H locs 0 0 (MQ below (va_Qv Q (pt_B D cA ad) (pt_fr ad s.heap.size)) ([.ref (ad k0), .int p1] : List Value).toArray s 0 0 (pt_fr ad s.heap.size)) (F0 m 84 ls [.int xs0]) := by
        intro x2 xs0 M H locs ls hw hP hS hl
        unfold wjX3_makeRecords_84 at hw
        refine lv_istore (lv' := [(5, .int xs0), (0, .ref (ad k0)), (1, .int p1), (2, .int x2)]) hx hb dX3_makeRecords_84 hl (by decide) rfl (fun ls hl => ?_)
        refine lv_aload_n hx hb dX3_makeRecords_86 rfl (lv_at hl 1 rfl) ?_
        refine pt_get F hP (pt_c3 _ hk0) (pt_l3 hk0) inX3 rfl 1 (by decide) kw_290 rfl rfl dX3_makeRecords_87 ?_
        refine pt_get F hP (pt_c4 _ (pt_3s hk0)) (pt_l4 (pt_3s hk0)) inX4 rfl 1 (by decide) kw_271 rfl rfl dX3_makeRecords_90 ?_
        refine lv_iload_n hx hb dX3_makeRecords_93 rfl (lv_at hl 3 rfl) ?_
        refine lv_iload hx hb dX3_makeRecords_94 (lv_at hl 0 rfl) ?_
        refine lv_aload_n hx hb dX3_makeRecords_96 rfl (lv_at hl 1 rfl) ?_
        refine pt_get F hP (pt_c3 _ hk0) (pt_l3 hk0) inX3 rfl 1 (by decide) kw_290 rfl rfl dX3_makeRecords_97 ?_
        refine pt_get F hP (pt_c4 _ (pt_3s hk0)) (pt_l4 (pt_3s hk0)) inX4 rfl 3 (by decide) kw_278 rfl rfl dX3_makeRecords_100 ?_
        refine lv_iand hx hb dX3_makeRecords_103 ?_
        have hv104 := hw.1
        replace hw := hw.2
        refine pt_iast F hP hD hS (pt_4r (pt_3s hk0)) hv104 dX3_makeRecords_104 (fun M_104 H locs eM_104 hP hS => ?_)
        replace hw := hw M_104 eM_104
        exact J105 x2 M_104 _ _ _ hw hP hS (lv_sub hl [1, 2, 3] rfl)
      intro x2 M H locs ls hw hP hS hl
      replace hw : lbX3_makeRecords_2 k0 p1 Q (lpX3_makeRecords_2 k0 p1 Q n2) x2 M := hw
      unfold lbX3_makeRecords_2 at hw
      refine lv_iload_n hx hb dX3_makeRecords_2 rfl (lv_at hl 2 rfl) ?_
      refine lv_aload_n hx hb dX3_makeRecords_3 rfl (lv_at hl 0 rfl) ?_
      refine pt_get F hP (pt_c3 _ hk0) (pt_l3 hk0) inX3 rfl 0 (by decide) kw_289 rfl rfl dX3_makeRecords_4 ?_
      refine pt_get F hP (pt_c1 _ pt_k1) (pt_l1 pt_k1) inX1 rfl 3 (by decide) kw_232 rfl rfl dX3_makeRecords_7 ?_
      refine lv_icmp_ge (tgt := 111) hx hb dX3_makeRecords_10 (by decide) (fun hc10 => ?_) (fun hc10 => ?_)
      · replace hw := hw.1 hc10
        exact W.vret hx hb hr (fun t ht hW => ⟨⟨M, rfl, hw, by unfold pt_B; rw [ht]; exact hP⟩, hS.F ht⟩) hS.2.2 dX3_makeRecords_111
      · replace hw := hw.2 hc10
        refine lv_aload_n hx hb dX3_makeRecords_13 rfl (lv_at hl 0 rfl) ?_
        refine pt_get F hP (pt_c3 _ hk0) (pt_l3 hk0) inX3 rfl 0 (by decide) kw_289 rfl rfl dX3_makeRecords_14 ?_
        refine pt_get F hP (pt_c1 _ pt_k1) (pt_l1 pt_k1) inX1 rfl 0 (by decide) kw_224 rfl rfl dX3_makeRecords_17 ?_
        refine lv_iload_n hx hb dX3_makeRecords_20 rfl (lv_at hl 2 rfl) ?_
        have hv21 := hw.1
        replace hw := hw.2
        refine pt_alds F hP hv21 dX3_makeRecords_21 ?_
        refine lv_astore_n (lv' := [(3, .ref (ad (pt_s x2))), (0, .ref (ad k0)), (1, .int p1), (2, .int x2)]) hx hb dX3_makeRecords_22 rfl hl (by decide) rfl (fun ls hl => ?_)
        refine lv_aload_n hx hb dX3_makeRecords_23 rfl (lv_at hl 0 rfl) ?_
        refine pt_calli (pt_runV (n := 0) (As := []) (rest := []) F hP (pt_c5 _ (pt_ks hv21)) (pt_l5 (pt_ks hv21)) rfl (mtX5_isMark l D cA ad hI _ (pt_s x2) (pt_ks hv21) M _ hw) kw_567 kw_798 kw_54 kw_565 kw_566 ⟨by decide, by decide, by decide +kernel⟩ ⟨rfl, rfl, Nat.le_of_ble_eq_true rfl, Nat.le_of_ble_eq_true rfl⟩ rfl hl.1 rfl (Nat.le_of_ble_eq_true rfl) dX3_makeRecords_24 ⟨Nat.zero_le _, Nat.zero_le _⟩) hS (fun _ h => h) (fun r_24 M_24 H locs hw hP hS _ _ => ?_)
        refine lv_if_eq (tgt := 105) hx hb dX3_makeRecords_27 (by decide) (fun hc27 => ?_) (fun hc27 => ?_)
        · replace hw := hw.1 hc27
          exact J105 x2 M_24 _ _ _ hw hP hS (lv_sub hl [1, 2, 3] rfl)
        · replace hw := hw.2 hc27
          refine lv_iload_n hx hb dX3_makeRecords_30 rfl (lv_at hl 2 rfl) ?_
          refine lv_aload_n hx hb dX3_makeRecords_31 rfl (lv_at hl 0 rfl) ?_
          refine pt_get F hP (pt_c5 _ (pt_ks hv21)) (pt_l5 (pt_ks hv21)) inX5 rfl 3 (by decide) kw_142 rfl rfl dX3_makeRecords_32 ?_
          refine pt_calli (pt_runSN (n := 2) (As := [.int p1, .int (M_24 (pt_s x2) 3)]) (rest := []) F hP (mtX7_has l D cA ad hI _ p1 (M_24 (pt_s x2) 3) M_24 _ hw) kw_449 kw_724 kw_52 kw_448 ⟨by decide, by decide, by decide +kernel⟩ ⟨rfl, rfl, Nat.le_of_ble_eq_true rfl, Nat.le_of_ble_eq_true rfl⟩ rfl hl.1 rfl (Nat.le_of_ble_eq_true rfl) dX3_makeRecords_35 ⟨Nat.zero_le _, Nat.zero_le _⟩) hS (fun _ h => h) (fun r_35 M_35 H locs hw hP hS _ _ => ?_)
          refine lv_if_eq (tgt := 105) hx hb dX3_makeRecords_38 (by decide) (fun hc38 => ?_) (fun hc38 => ?_)
          · replace hw := hw.1 hc38
            exact J105 x2 M_35 _ _ _ hw hP hS (lv_sub hl [1, 2, 3] rfl)
          · replace hw := hw.2 hc38
            refine lv_aload_n hx hb dX3_makeRecords_41 rfl (lv_at hl 1 rfl) ?_
            refine pt_get F hP (pt_c3 _ hk0) (pt_l3 hk0) inX3 rfl 0 (by decide) kw_289 rfl rfl dX3_makeRecords_42 ?_
            refine pt_get F hP (pt_c1 _ pt_k1) (pt_l1 pt_k1) inX1 rfl 0 (by decide) kw_224 rfl rfl dX3_makeRecords_45 ?_
            refine lv_aload_n hx hb dX3_makeRecords_48 rfl (lv_at hl 0 rfl) ?_
            refine pt_get F hP (pt_c5 _ (pt_ks hv21)) (pt_l5 (pt_ks hv21)) inX5 rfl 3 (by decide) kw_142 rfl rfl dX3_makeRecords_49 ?_
            have hv52 := hw.1
            replace hw := hw.2
            refine pt_alds F hP hv52 dX3_makeRecords_52 ?_
            refine lv_astore (lv' := [(4, .ref (ad (pt_s (M_35 (pt_s x2) 3)))), (3, .ref (ad (pt_s x2))), (0, .ref (ad k0)), (1, .int p1), (2, .int x2)]) hx hb dX3_makeRecords_53 hl (by decide) rfl (fun ls hl => ?_)
            refine lv_aload_n hx hb dX3_makeRecords_55 rfl (lv_at hl 1 rfl) ?_
            refine pt_get F hP (pt_c5 _ (pt_ks hv21)) (pt_l5 (pt_ks hv21)) inX5 rfl 2 (by decide) kw_138 rfl rfl dX3_makeRecords_56 ?_
            refine lv_iconst (v := 3) hx hb dX3_makeRecords_59 (by decide) ?_
            refine lv_icmp_ne (tgt := 71) hx hb dX3_makeRecords_60 (by decide) (fun hc60 => ?_) (fun hc60 => ?_)
            · replace hw := hw.1 hc60
              refine lv_aload hx hb dX3_makeRecords_71 (lv_at hl 0 rfl) ?_
              refine pt_get F hP (pt_c5 _ (pt_ks hv52)) (pt_l5 (pt_ks hv52)) inX5 rfl 7 (by decide) kw_153 rfl rfl dX3_makeRecords_73 ?_
              refine lv_aload_n hx hb dX3_makeRecords_76 rfl (lv_at hl 2 rfl) ?_
              refine pt_get F hP (pt_c3 _ hk0) (pt_l3 hk0) inX3 rfl 0 (by decide) kw_289 rfl rfl dX3_makeRecords_77 ?_
              refine pt_get F hP (pt_c1 _ pt_k1) (pt_l1 pt_k1) inX1 rfl 5 (by decide) kw_237 rfl rfl dX3_makeRecords_80 ?_
              refine lv_iand hx hb dX3_makeRecords_83 ?_
              exact J84 x2 ((M_35 (pt_s (M_35 (pt_s x2) 3)) 7) &&& (M_35 1 5)) M_35 _ _ _ hw hP hS (lv_sub hl [2, 3, 4] rfl)
            · replace hw := hw.2 hc60
              refine lv_aload hx hb dX3_makeRecords_63 (lv_at hl 0 rfl) ?_
              refine pt_get F hP (pt_c5 _ (pt_ks hv52)) (pt_l5 (pt_ks hv52)) inX5 rfl 5 (by decide) kw_145 rfl rfl dX3_makeRecords_65 ?_
              refine lv_goto (tgt := 84) hx hb dX3_makeRecords_68 (by decide) ?_
              exact J84 x2 (M_35 (pt_s (M_35 (pt_s x2) 3)) 5) M_35 _ _ _ hw hP hS (lv_sub hl [2, 3, 4] rfl)
  unfold wpX3_makeRecords at hw
  refine lv_iconst (v := 0) hx hb dX3_makeRecords_0 (by decide) ?_
  refine lv_istore_n (lv' := [(2, .int 0), (0, .ref (ad k0)), (1, .int p1)]) hx hb dX3_makeRecords_1 rfl hl (by decide) rfl (fun ls hl => ?_)
  obtain ⟨n_, hw⟩ := hw
  exact L2 n_ 0 M _ _ _ hw hP hS (lv_sub hl [1, 2, 0] rfl)
-- ===== X3_act
def wjX3_act_80 (k0 : Nat) (k1 : Nat) (Q : pt_M → Prop)   (M : pt_M) : Prop :=
  Q M
def wpX3_act (k0 : Nat) (k1 : Nat) (M : pt_M) (Q : pt_M → Prop) : Prop :=
  ((M k1 0) = 1 → vp_in (M k1 1) 4 ∧ ∀ M_47 : pt_M, M_47 = pt_st M ((k0 + 1) + 3) (Int32.toNatClampNeg (M k1 1)) (M k1 2) → wjX3_act_80 k0 k1 Q M_47) ∧ (¬ (M k1 0) = 1 → ((M k1 0) = 2 → wpX4_add (k0 + 1) (M k1 1) (M k1 2) M (fun (M_63 : pt_M) => wjX3_act_80 k0 k1 Q M_63)) ∧ (¬ (M k1 0) = 2 → ((M k1 0) = 3 → wpX3_raise k0 (M k1 1) M (fun (M_74 : pt_M) => wjX3_act_80 k0 k1 Q M_74)) ∧ (¬ (M k1 0) = 3 → wjX3_act_80 k0 k1 Q M)))
set_option maxHeartbeats 4000000 in
set_option maxRecDepth 100000 in
theorem mtX3_act (l : Launch) (D : va_G) (cA : Nat → ClassId) (ad : Nat → Nat) (hI : pt_I ad) (sz : Nat) (k0 : Nat) (hk0 : pt_kd k0 = 3) (k1 : Nat) (hk1 : pt_kd k1 = 0) (M : pt_M) (Q : pt_M → Prop) (hw : wpX3_act k0 k1 M Q) : Met l yX3_act (Cond.code yX3_act cX3_act 2 none :: lw_all) ({ frames := 2, cells := 0, slots := 0, locals := 44 } : Room) (va_Pc [.ref (ad k0), .ref (ad k1)] (pt_P D cA ad sz M)) (va_Qv Q (pt_B D cA ad) (pt_fr ad sz)) 0 0 (pt_fr ad sz) := by
  refine Met.ofW (cc := cX3_act) (maxL := 2) (ret := none) (by decide) rfl ?_
  intro p e s m args below meth c s₁ B hml hv
  obtain ⟨rfl, hsz, hP, hK⟩ := hv
  have hx := B.exec
  have hb := B.bytes
  have hr := B.returns
  have hts0 := atoms_spec (ws := (Cond.code yX3_act cX3_act 2 none :: lw_all)) B.pre
  have hown : s.vm.findClass RX3 = some m.cls := findClass_of_methodNamed B.named
  have hlocks := B.notSynchronized
  subst hsz
  have F : pt_F p m c cX3_act 2 s _ RX3 D cA := ⟨⟨hx, hb, hml, hown, fun w h => hts0 w (List.mem_cons_of_mem _ h)⟩, hK⟩
  have hD : ∀ M, va_D (pt_fr ad s.heap.size) (pt_W cA ad M) := pt_D hI (fun k h => Or.inl ⟨k, h, rfl⟩)
  have hS : va_S (pt_fr ad s.heap.size) s.heap s.heap [] := va_S.rf
  have hl := lv_entry ([.ref (ad k0), .ref (ad k1)]) (n := 2) (Nat.le_of_ble_eq_true rfl)
  rw [lg_entry_eq]
  generalize (lg_sl ([.ref (ad k0), .ref (ad k1)]) ++ List.replicate (2 - (lg_sl ([.ref (ad k0), .ref (ad k1)])).length) Slot.unset).toArray = ls at hl ⊢
  have hl : lv_has ls 2 [(0, .ref (ad k0)), (1, .ref (ad k1))] := hl
  have J80 : ∀ (M : pt_M) (H : Heap) (locs : List Loc) (ls : Array Slot), wjX3_act_80 k0 k1 Q M → va_P D pt_cl (pt_W cA ad M) H → va_S (pt_fr ad s.heap.size) s.heap H locs → lv_has ls 2 [] → W p l e (headSpec (Cond.code yX3_act cX3_act 2 none :: lw_all) ({ frames := 2, cells := 0, slots := 0, locals := 44 } : Room)).room s m ([.ref (ad k0), .ref (ad k1)] : List Value).toArray below meth c H locs 0 0 (MQ below (va_Qv Q (pt_B D cA ad) (pt_fr ad s.heap.size)) ([.ref (ad k0), .ref (ad k1)] : List Value).toArray s 0 0 (pt_fr ad s.heap.size)) (F0 m 80 ls []) := by
    intro M H locs ls hw hP hS hl
    unfold wjX3_act_80 at hw
    exact W.vret hx hb hr (fun t ht hW => ⟨⟨M, rfl, hw, by unfold pt_B; rw [ht]; exact hP⟩, hS.F ht⟩) hS.2.2 dX3_act_80
  unfold wpX3_act at hw
  refine lv_aload_n hx hb dX3_act_0 rfl (lv_at hl 1 rfl) ?_
  refine pt_get F hP (pt_c0 _ hk1) (pt_l0 hk1) inX0 rfl 0 (by decide) kw_116 rfl rfl dX3_act_1 ?_
  by_cases hn4_0 : (M k1 0) = 1
  · replace hw := hw.1 hn4_0
    refine lv_tableIn (off := 28) (tgt := 32) hx hb dX3_act_4 (by rw [hn4_0]; decide) (by rw [hn4_0]; decide) (by rw [hn4_0]; rfl) (by decide) ?_
    refine lv_aload_n hx hb dX3_act_32 rfl (lv_at hl 0 rfl) ?_
    refine pt_get F hP (pt_c3 _ hk0) (pt_l3 hk0) inX3 rfl 1 (by decide) kw_290 rfl rfl dX3_act_33 ?_
    refine pt_get F hP (pt_c4 _ (pt_3s hk0)) (pt_l4 (pt_3s hk0)) inX4 rfl 2 (by decide) kw_274 rfl rfl dX3_act_36 ?_
    refine lv_aload_n hx hb dX3_act_39 rfl (lv_at hl 1 rfl) ?_
    refine pt_get F hP (pt_c0 _ hk1) (pt_l0 hk1) inX0 rfl 1 (by decide) kw_118 rfl rfl dX3_act_40 ?_
    refine lv_aload_n hx hb dX3_act_43 rfl (lv_at hl 1 rfl) ?_
    refine pt_get F hP (pt_c0 _ hk1) (pt_l0 hk1) inX0 rfl 2 (by decide) kw_120 rfl rfl dX3_act_44 ?_
    have hv47 := hw.1
    replace hw := hw.2
    refine pt_iast F hP hD hS (pt_4v (pt_3s hk0)) hv47 dX3_act_47 (fun M_47 H locs eM_47 hP hS => ?_)
    replace hw := hw M_47 eM_47
    refine lv_goto (tgt := 80) hx hb dX3_act_48 (by decide) ?_
    exact J80 M_47 _ _ _ hw hP hS (lv_sub hl [] rfl)
  · replace hw := hw.2 hn4_0
    by_cases hn4_1 : (M k1 0) = 2
    · replace hw := hw.1 hn4_1
      refine lv_tableIn (off := 47) (tgt := 51) hx hb dX3_act_4 (by rw [hn4_1]; decide) (by rw [hn4_1]; decide) (by rw [hn4_1]; rfl) (by decide) ?_
      refine lv_aload_n hx hb dX3_act_51 rfl (lv_at hl 0 rfl) ?_
      refine pt_get F hP (pt_c3 _ hk0) (pt_l3 hk0) inX3 rfl 1 (by decide) kw_290 rfl rfl dX3_act_52 ?_
      refine lv_aload_n hx hb dX3_act_55 rfl (lv_at hl 1 rfl) ?_
      refine pt_get F hP (pt_c0 _ hk1) (pt_l0 hk1) inX0 rfl 1 (by decide) kw_118 rfl rfl dX3_act_56 ?_
      refine lv_aload_n hx hb dX3_act_59 rfl (lv_at hl 1 rfl) ?_
      refine pt_get F hP (pt_c0 _ hk1) (pt_l0 hk1) inX0 rfl 2 (by decide) kw_120 rfl rfl dX3_act_60 ?_
      refine pt_callv (pt_runV (n := 2) (As := [.int (M k1 1), .int (M k1 2)]) (rest := []) F hP (pt_c4 _ (pt_3s hk0)) (pt_l4 (pt_3s hk0)) rfl (mtX4_add l D cA ad hI _ (k0 + 1) (pt_3s hk0) (M k1 1) (M k1 2) M _ hw) kw_733 kw_730 kw_58 kw_731 kw_732 ⟨by decide, by decide, by decide +kernel⟩ ⟨rfl, rfl, Nat.le_of_ble_eq_true rfl, Nat.le_of_ble_eq_true rfl⟩ rfl hl.1 rfl (Nat.le_of_ble_eq_true rfl) dX3_act_63 ⟨Nat.zero_le _, Nat.zero_le _⟩) hS (fun _ h => h) (fun M_63 H locs hw hP hS _ _ => ?_)
      refine lv_goto (tgt := 80) hx hb dX3_act_66 (by decide) ?_
      exact J80 M_63 _ _ _ hw hP hS (lv_sub hl [] rfl)
    · replace hw := hw.2 hn4_1
      by_cases hn4_2 : (M k1 0) = 3
      · replace hw := hw.1 hn4_2
        refine lv_tableIn (off := 65) (tgt := 69) hx hb dX3_act_4 (by rw [hn4_2]; decide) (by rw [hn4_2]; decide) (by rw [hn4_2]; rfl) (by decide) ?_
        refine lv_aload_n hx hb dX3_act_69 rfl (lv_at hl 0 rfl) ?_
        refine lv_aload_n hx hb dX3_act_70 rfl (lv_at hl 1 rfl) ?_
        refine pt_get F hP (pt_c0 _ hk1) (pt_l0 hk1) inX0 rfl 1 (by decide) kw_118 rfl rfl dX3_act_71 ?_
        refine pt_callv (pt_runV (n := 1) (As := [.int (M k1 1)]) (rest := []) F hP (pt_c3 _ hk0) (pt_l3 hk0) rfl (mtX3_raise l D cA ad hI _ k0 hk0 (M k1 1) M _ hw) kw_743 kw_740 kw_57 kw_742 kw_7 ⟨by decide, by decide, by decide +kernel⟩ ⟨rfl, rfl, Nat.le_of_ble_eq_true rfl, Nat.le_of_ble_eq_true rfl⟩ rfl hl.1 rfl (Nat.le_of_ble_eq_true rfl) dX3_act_74 ⟨Nat.zero_le _, Nat.zero_le _⟩) hS (fun _ h => h) (fun M_74 H locs hw hP hS _ _ => ?_)
        refine lv_goto (tgt := 80) hx hb dX3_act_77 (by decide) ?_
        exact J80 M_74 _ _ _ hw hP hS (lv_sub hl [] rfl)
      · replace hw := hw.2 hn4_2
        refine lv_tableOut (tgt := 80) hx hb dX3_act_4 (pt_out13 hn4_0 hn4_1 hn4_2) (by decide) ?_
        exact J80 M _ _ _ hw hP hS (lv_sub hl [] rfl)
-- ===== X3_leave
def wjX3_leave_66 (k0 : Nat) (p1 : Int32) (Q : pt_M → Prop) (R10 : Int32 → pt_M → Prop) (x2 : Int32) (M : pt_M) : Prop :=
  ∀ x2_66 : Int32, x2_66 = x2 + (-1) → R10 x2_66 M
def lbX3_leave_10 (k0 : Nat) (p1 : Int32) (Q : pt_M → Prop)  (R10 : Int32 → pt_M → Prop) (x2 : Int32) (M : pt_M) : Prop :=
  (x2 < 0 → Q M) ∧ (¬ x2 < 0 → wpX7_has p1 x2 M (fun (r_16 : Int32) (M_16 : pt_M) => (r_16 = 0 → wjX3_leave_66 k0 p1 Q R10 x2 M_16) ∧ (¬ r_16 = 0 → wpX7_setOf x2 M_16 (fun (r_31 : Int32) (M_31 : pt_M) => ∀ M_37 : pt_M, M_37 = pt_st M_31 (k0 + 1) 3 ((M_16 (k0 + 1) 3) &&& (r_31 ^^^ (-1))) → vp_in x2 20 ∧ ∀ M_49 : pt_M, M_49 = pt_st M_37 ((k0 + 1) + 1) (Int32.toNatClampNeg x2) (-1) → vp_in x2 20 ∧ (wpX3_act k0 ((pt_s x2) + 2) M_49 (fun (M_63 : pt_M) => wjX3_leave_66 k0 p1 Q R10 x2 M_63))))))
def lpX3_leave_10 (k0 : Nat) (p1 : Int32) (Q : pt_M → Prop)  : Nat → Int32 → pt_M → Prop
  | 0 => fun _ _ => False
  | n + 1 => fun x2 M => lbX3_leave_10 k0 p1 Q (lpX3_leave_10 k0 p1 Q n) x2 M
def wpX3_leave (k0 : Nat) (p1 : Int32) (M : pt_M) (Q : pt_M → Prop) : Prop :=
  ∀ x2_9 : Int32, x2_9 = ((M 1 3) - 1) → ∃ n : Nat, lpX3_leave_10 k0 p1 Q n x2_9 M
set_option maxHeartbeats 4000000 in
set_option maxRecDepth 100000 in
theorem mtX3_leave (l : Launch) (D : va_G) (cA : Nat → ClassId) (ad : Nat → Nat) (hI : pt_I ad) (sz : Nat) (k0 : Nat) (hk0 : pt_kd k0 = 3) (p1 : Int32) (M : pt_M) (Q : pt_M → Prop) (hw : wpX3_leave k0 p1 M Q) : Met l yX3_leave (Cond.code yX3_leave cX3_leave 3 none :: lw_all) ({ frames := 3, cells := 0, slots := 0, locals := 65 } : Room) (va_Pc [.ref (ad k0), .int p1] (pt_P D cA ad sz M)) (va_Qv Q (pt_B D cA ad) (pt_fr ad sz)) 0 0 (pt_fr ad sz) := by
  refine Met.ofW (cc := cX3_leave) (maxL := 3) (ret := none) (by decide) rfl ?_
  intro p e s m args below meth c s₁ B hml hv
  obtain ⟨rfl, hsz, hP, hK⟩ := hv
  have hx := B.exec
  have hb := B.bytes
  have hr := B.returns
  have hts0 := atoms_spec (ws := (Cond.code yX3_leave cX3_leave 3 none :: lw_all)) B.pre
  have hown : s.vm.findClass RX3 = some m.cls := findClass_of_methodNamed B.named
  have hlocks := B.notSynchronized
  subst hsz
  have F : pt_F p m c cX3_leave 3 s _ RX3 D cA := ⟨⟨hx, hb, hml, hown, fun w h => hts0 w (List.mem_cons_of_mem _ h)⟩, hK⟩
  have hD : ∀ M, va_D (pt_fr ad s.heap.size) (pt_W cA ad M) := pt_D hI (fun k h => Or.inl ⟨k, h, rfl⟩)
  have hS : va_S (pt_fr ad s.heap.size) s.heap s.heap [] := va_S.rf
  have hl := lv_entry ([.ref (ad k0), .int p1]) (n := 3) (Nat.le_of_ble_eq_true rfl)
  rw [lg_entry_eq]
  generalize (lg_sl ([.ref (ad k0), .int p1]) ++ List.replicate (3 - (lg_sl ([.ref (ad k0), .int p1])).length) Slot.unset).toArray = ls at hl ⊢
  have hl : lv_has ls 3 [(0, .ref (ad k0)), (1, .int p1)] := hl
  have L10 : ∀ (n10 : Nat) (x2 : Int32) (M : pt_M) (H : Heap) (locs : List Loc) (ls : Array Slot), lpX3_leave_10 k0 p1 Q n10 x2 M → va_P D pt_cl (pt_W cA ad M) H → va_S (pt_fr ad s.heap.size) s.heap H locs → lv_has ls 3 [(0, .ref (ad k0)), (1, .int p1), (2, .int x2)] → W p l e (headSpec (Cond.code yX3_leave cX3_leave 3 none :: lw_all) ({ frames := 3, cells := 0, slots := 0, locals := 65 } : Room)).room s m ([.ref (ad k0), .int p1] : List Value).toArray below meth c H locs 0 0 (MQ below (va_Qv Q (pt_B D cA ad) (pt_fr ad s.heap.size)) ([.ref (ad k0), .int p1] : List Value).toArray s 0 0 (pt_fr ad s.heap.size)) (F0 m 10 ls []) := by
    intro n10
    induction n10 with
    | zero => intro x2 M H locs ls hw; exact hw.elim
    | succ n10 ih10 =>
      have J66 : ∀ (x2 : Int32) (M : pt_M) (H : Heap) (locs : List Loc) (ls : Array Slot), wjX3_leave_66 k0 p1 Q (lpX3_leave_10 k0 p1 Q n10) x2 M → va_P D pt_cl (pt_W cA ad M) H → va_S (pt_fr ad s.heap.size) s.heap H locs → lv_has ls 3 [(0, .ref (ad k0)), (1, .int p1), (2, .int x2)] → W p l e (headSpec (Cond.code yX3_leave cX3_leave 3 none :: lw_all) ({ frames := 3, cells := 0, slots := 0, locals := 65 } : Room)).room s m ([.ref (ad k0), .int p1] : List Value).toArray below meth c H locs 0 0 (MQ below (va_Qv Q (pt_B D cA ad) (pt_fr ad s.heap.size)) ([.ref (ad k0), .int p1] : List Value).toArray s 0 0 (pt_fr ad s.heap.size)) (F0 m 66 ls []) := by
        intro x2 M H locs ls hw hP hS hl
        unfold wjX3_leave_66 at hw
        obtain ⟨x2_66, ex2_66⟩ : ∃ y : Int32, y = x2 + (-1) := ⟨_, rfl⟩
        replace hw := hw x2_66 ex2_66
        refine lv_iinc (v := x2_66) (lv' := [(2, .int x2_66), (0, .ref (ad k0)), (1, .int p1)]) hx hb dX3_leave_66 hl (k := 2) rfl (by rw [ex2_66]; rfl) (by decide) rfl (fun ls hl => ?_)
        refine lv_goto (tgt := 10) hx hb dX3_leave_69 (by decide) ?_
        exact ih10 x2_66 M _ _ _ hw hP hS (lv_sub hl [1, 2, 0] rfl)
      intro x2 M H locs ls hw hP hS hl
      replace hw : lbX3_leave_10 k0 p1 Q (lpX3_leave_10 k0 p1 Q n10) x2 M := hw
      unfold lbX3_leave_10 at hw
      refine lv_iload_n hx hb dX3_leave_10 rfl (lv_at hl 2 rfl) ?_
      refine lv_if_lt (tgt := 72) hx hb dX3_leave_11 (by decide) (fun hc11 => ?_) (fun hc11 => ?_)
      · replace hw := hw.1 hc11
        exact W.vret hx hb hr (fun t ht hW => ⟨⟨M, rfl, hw, by unfold pt_B; rw [ht]; exact hP⟩, hS.F ht⟩) hS.2.2 dX3_leave_72
      · replace hw := hw.2 hc11
        refine lv_iload_n hx hb dX3_leave_14 rfl (lv_at hl 1 rfl) ?_
        refine lv_iload_n hx hb dX3_leave_15 rfl (lv_at hl 2 rfl) ?_
        refine pt_calli (pt_runSN (n := 2) (As := [.int p1, .int x2]) (rest := []) F hP (mtX7_has l D cA ad hI _ p1 x2 M _ hw) kw_449 kw_724 kw_52 kw_448 ⟨by decide, by decide, by decide +kernel⟩ ⟨rfl, rfl, Nat.le_of_ble_eq_true rfl, Nat.le_of_ble_eq_true rfl⟩ rfl hl.1 rfl (Nat.le_of_ble_eq_true rfl) dX3_leave_16 ⟨Nat.zero_le _, Nat.zero_le _⟩) hS (fun _ h => h) (fun r_16 M_16 H locs hw hP hS _ _ => ?_)
        refine lv_if_eq (tgt := 66) hx hb dX3_leave_19 (by decide) (fun hc19 => ?_) (fun hc19 => ?_)
        · replace hw := hw.1 hc19
          exact J66 x2 M_16 _ _ _ hw hP hS (lv_sub hl [0, 1, 2] rfl)
        · replace hw := hw.2 hc19
          refine lv_aload_n hx hb dX3_leave_22 rfl (lv_at hl 0 rfl) ?_
          refine pt_get F hP (pt_c3 _ hk0) (pt_l3 hk0) inX3 rfl 1 (by decide) kw_290 rfl rfl dX3_leave_23 ?_
          refine lv_dup hx hb dX3_leave_26 rfl ?_
          refine pt_get F hP (pt_c4 _ (pt_3s hk0)) (pt_l4 (pt_3s hk0)) inX4 rfl 3 (by decide) kw_278 rfl rfl dX3_leave_27 ?_
          refine lv_iload_n hx hb dX3_leave_30 rfl (lv_at hl 2 rfl) ?_
          refine pt_calli (pt_runSN (n := 1) (As := [.int x2]) (rest := [.int (M_16 (k0 + 1) 3), .ref (ad (k0 + 1))]) F hP (mtX7_setOf l D cA ad hI _ x2 M_16 _ hw) kw_103 kw_725 kw_52 kw_102 ⟨by decide, by decide, by decide +kernel⟩ ⟨rfl, rfl, Nat.le_of_ble_eq_true rfl, Nat.le_of_ble_eq_true rfl⟩ rfl hl.1 rfl (Nat.le_of_ble_eq_true rfl) dX3_leave_31 ⟨Nat.zero_le _, Nat.zero_le _⟩) hS (fun _ h => h) (fun r_31 M_31 H locs hw hP hS _ _ => ?_)
          refine lv_iconst (v := (-1)) hx hb dX3_leave_34 (by decide) ?_
          refine lv_ixor hx hb dX3_leave_35 ?_
          refine lv_iand hx hb dX3_leave_36 ?_
          refine pt_put F hP hD hS (pt_c4 _ (pt_3s hk0)) (pt_l4 (pt_3s hk0)) inX4 tyX4 tyX4_ok nmX4 rfl 3 (by decide) kw_278 rfl rfl rfl rfl (Nat.le_of_ble_eq_true rfl) (pt_c4 _ (pt_3s hk0)) dX3_leave_37 (fun M_37 H locs eM_37 hP hS => ?_)
          replace hw := hw M_37 eM_37
          refine lv_aload_n hx hb dX3_leave_40 rfl (lv_at hl 0 rfl) ?_
          refine pt_get F hP (pt_c3 _ hk0) (pt_l3 hk0) inX3 rfl 1 (by decide) kw_290 rfl rfl dX3_leave_41 ?_
          refine pt_get F hP (pt_c4 _ (pt_3s hk0)) (pt_l4 (pt_3s hk0)) inX4 rfl 0 (by decide) kw_268 rfl rfl dX3_leave_44 ?_
          refine lv_iload_n hx hb dX3_leave_47 rfl (lv_at hl 2 rfl) ?_
          refine lv_iconst (v := (-1)) hx hb dX3_leave_48 (by decide) ?_
          have hv49 := hw.1
          replace hw := hw.2
          refine pt_iast F hP hD hS (pt_4a (pt_3s hk0)) hv49 dX3_leave_49 (fun M_49 H locs eM_49 hP hS => ?_)
          replace hw := hw M_49 eM_49
          refine lv_aload_n hx hb dX3_leave_50 rfl (lv_at hl 0 rfl) ?_
          refine lv_aload_n hx hb dX3_leave_51 rfl (lv_at hl 0 rfl) ?_
          refine pt_get F hP (pt_c3 _ hk0) (pt_l3 hk0) inX3 rfl 0 (by decide) kw_289 rfl rfl dX3_leave_52 ?_
          refine pt_get F hP (pt_c1 _ pt_k1) (pt_l1 pt_k1) inX1 rfl 0 (by decide) kw_224 rfl rfl dX3_leave_55 ?_
          refine lv_iload_n hx hb dX3_leave_58 rfl (lv_at hl 2 rfl) ?_
          have hv59 := hw.1
          replace hw := hw.2
          refine pt_alds F hP hv59 dX3_leave_59 ?_
          refine pt_get F hP (pt_c5 _ (pt_ks hv59)) (pt_l5 (pt_ks hv59)) inX5 rfl 1 (by decide) kw_134 rfl rfl dX3_leave_60 ?_
          refine pt_callv (pt_runV (n := 1) (As := [.ref (ad ((pt_s x2) + 2))]) (rest := []) F hP (pt_c3 _ hk0) (pt_l3 hk0) rfl (mtX3_act l D cA ad hI _ k0 hk0 ((pt_s x2) + 2) (pt_5l (pt_ks hv59)) M_49 _ hw) kw_729 kw_726 kw_57 kw_728 kw_6 ⟨by decide, by decide, by decide +kernel⟩ ⟨rfl, rfl, Nat.le_of_ble_eq_true rfl, Nat.le_of_ble_eq_true rfl⟩ rfl hl.1 rfl (Nat.le_of_ble_eq_true rfl) dX3_leave_63 ⟨Nat.zero_le _, Nat.zero_le _⟩) hS (fun _ h => h) (fun M_63 H locs hw hP hS _ _ => ?_)
          exact J66 x2 M_63 _ _ _ hw hP hS (lv_sub hl [0, 1, 2] rfl)
  unfold wpX3_leave at hw
  refine lv_aload_n hx hb dX3_leave_0 rfl (lv_at hl 0 rfl) ?_
  refine pt_get F hP (pt_c3 _ hk0) (pt_l3 hk0) inX3 rfl 0 (by decide) kw_289 rfl rfl dX3_leave_1 ?_
  refine pt_get F hP (pt_c1 _ pt_k1) (pt_l1 pt_k1) inX1 rfl 3 (by decide) kw_232 rfl rfl dX3_leave_4 ?_
  refine lv_iconst (v := 1) hx hb dX3_leave_7 (by decide) ?_
  refine lv_isub hx hb dX3_leave_8 ?_
  refine lv_topi (fun x2_9 ex2_9 => ?_)
  replace hw := hw x2_9 ex2_9
  refine lv_istore_n (lv' := [(2, .int x2_9), (0, .ref (ad k0)), (1, .int p1)]) hx hb dX3_leave_9 rfl hl (by decide) rfl (fun ls hl => ?_)
  obtain ⟨n_, hw⟩ := hw
  exact L10 n_ x2_9 M _ _ _ hw hP hS (lv_sub hl [1, 2, 0] rfl)
-- ===== X3_enter
def wjX3_enter_63 (k0 : Nat) (p1 : Int32) (Q : pt_M → Prop) (R2 : Int32 → pt_M → Prop) (x2 : Int32) (M : pt_M) : Prop :=
  ∀ x2_63 : Int32, x2_63 = x2 + 1 → R2 x2_63 M
def lbX3_enter_2 (k0 : Nat) (p1 : Int32) (Q : pt_M → Prop)  (R2 : Int32 → pt_M → Prop) (x2 : Int32) (M : pt_M) : Prop :=
  ((M 1 3) ≤ x2 → Q M) ∧ (¬ (M 1 3) ≤ x2 → wpX7_has p1 x2 M (fun (r_15 : Int32) (M_15 : pt_M) => (r_15 = 0 → wjX3_enter_63 k0 p1 Q R2 x2 M_15) ∧ (¬ r_15 = 0 → wpX7_setOf x2 M_15 (fun (r_30 : Int32) (M_30 : pt_M) => ∀ M_34 : pt_M, M_34 = pt_st M_30 (k0 + 1) 3 ((M_15 (k0 + 1) 3) ||| r_30) → vp_in x2 20 ∧ ∀ M_46 : pt_M, M_46 = pt_st M_34 ((k0 + 1) + 1) (Int32.toNatClampNeg x2) 0 → vp_in x2 20 ∧ (wpX3_act k0 ((pt_s x2) + 1) M_46 (fun (M_60 : pt_M) => wjX3_enter_63 k0 p1 Q R2 x2 M_60))))))
def lpX3_enter_2 (k0 : Nat) (p1 : Int32) (Q : pt_M → Prop)  : Nat → Int32 → pt_M → Prop
  | 0 => fun _ _ => False
  | n + 1 => fun x2 M => lbX3_enter_2 k0 p1 Q (lpX3_enter_2 k0 p1 Q n) x2 M
def wpX3_enter (k0 : Nat) (p1 : Int32) (M : pt_M) (Q : pt_M → Prop) : Prop :=
  ∃ n : Nat, lpX3_enter_2 k0 p1 Q n 0 M
set_option maxHeartbeats 4000000 in
set_option maxRecDepth 100000 in
theorem mtX3_enter (l : Launch) (D : va_G) (cA : Nat → ClassId) (ad : Nat → Nat) (hI : pt_I ad) (sz : Nat) (k0 : Nat) (hk0 : pt_kd k0 = 3) (p1 : Int32) (M : pt_M) (Q : pt_M → Prop) (hw : wpX3_enter k0 p1 M Q) : Met l yX3_enter (Cond.code yX3_enter cX3_enter 3 none :: lw_all) ({ frames := 3, cells := 0, slots := 0, locals := 65 } : Room) (va_Pc [.ref (ad k0), .int p1] (pt_P D cA ad sz M)) (va_Qv Q (pt_B D cA ad) (pt_fr ad sz)) 0 0 (pt_fr ad sz) := by
  refine Met.ofW (cc := cX3_enter) (maxL := 3) (ret := none) (by decide) rfl ?_
  intro p e s m args below meth c s₁ B hml hv
  obtain ⟨rfl, hsz, hP, hK⟩ := hv
  have hx := B.exec
  have hb := B.bytes
  have hr := B.returns
  have hts0 := atoms_spec (ws := (Cond.code yX3_enter cX3_enter 3 none :: lw_all)) B.pre
  have hown : s.vm.findClass RX3 = some m.cls := findClass_of_methodNamed B.named
  have hlocks := B.notSynchronized
  subst hsz
  have F : pt_F p m c cX3_enter 3 s _ RX3 D cA := ⟨⟨hx, hb, hml, hown, fun w h => hts0 w (List.mem_cons_of_mem _ h)⟩, hK⟩
  have hD : ∀ M, va_D (pt_fr ad s.heap.size) (pt_W cA ad M) := pt_D hI (fun k h => Or.inl ⟨k, h, rfl⟩)
  have hS : va_S (pt_fr ad s.heap.size) s.heap s.heap [] := va_S.rf
  have hl := lv_entry ([.ref (ad k0), .int p1]) (n := 3) (Nat.le_of_ble_eq_true rfl)
  rw [lg_entry_eq]
  generalize (lg_sl ([.ref (ad k0), .int p1]) ++ List.replicate (3 - (lg_sl ([.ref (ad k0), .int p1])).length) Slot.unset).toArray = ls at hl ⊢
  have hl : lv_has ls 3 [(0, .ref (ad k0)), (1, .int p1)] := hl
  have L2 : ∀ (n2 : Nat) (x2 : Int32) (M : pt_M) (H : Heap) (locs : List Loc) (ls : Array Slot), lpX3_enter_2 k0 p1 Q n2 x2 M → va_P D pt_cl (pt_W cA ad M) H → va_S (pt_fr ad s.heap.size) s.heap H locs → lv_has ls 3 [(0, .ref (ad k0)), (1, .int p1), (2, .int x2)] → W p l e (headSpec (Cond.code yX3_enter cX3_enter 3 none :: lw_all) ({ frames := 3, cells := 0, slots := 0, locals := 65 } : Room)).room s m ([.ref (ad k0), .int p1] : List Value).toArray below meth c H locs 0 0 (MQ below (va_Qv Q (pt_B D cA ad) (pt_fr ad s.heap.size)) ([.ref (ad k0), .int p1] : List Value).toArray s 0 0 (pt_fr ad s.heap.size)) (F0 m 2 ls []) := by
    intro n2
    induction n2 with
    | zero => intro x2 M H locs ls hw; exact hw.elim
    | succ n2 ih2 =>
      have J63 : ∀ (x2 : Int32) (M : pt_M) (H : Heap) (locs : List Loc) (ls : Array Slot), wjX3_enter_63 k0 p1 Q (lpX3_enter_2 k0 p1 Q n2) x2 M → va_P D pt_cl (pt_W cA ad M) H → va_S (pt_fr ad s.heap.size) s.heap H locs → lv_has ls 3 [(0, .ref (ad k0)), (1, .int p1), (2, .int x2)] → W p l e (headSpec (Cond.code yX3_enter cX3_enter 3 none :: lw_all) ({ frames := 3, cells := 0, slots := 0, locals := 65 } : Room)).room s m ([.ref (ad k0), .int p1] : List Value).toArray below meth c H locs 0 0 (MQ below (va_Qv Q (pt_B D cA ad) (pt_fr ad s.heap.size)) ([.ref (ad k0), .int p1] : List Value).toArray s 0 0 (pt_fr ad s.heap.size)) (F0 m 63 ls []) := by
        intro x2 M H locs ls hw hP hS hl
        unfold wjX3_enter_63 at hw
        obtain ⟨x2_63, ex2_63⟩ : ∃ y : Int32, y = x2 + 1 := ⟨_, rfl⟩
        replace hw := hw x2_63 ex2_63
        refine lv_iinc (v := x2_63) (lv' := [(2, .int x2_63), (0, .ref (ad k0)), (1, .int p1)]) hx hb dX3_enter_63 hl (k := 2) rfl (by rw [ex2_63]; rfl) (by decide) rfl (fun ls hl => ?_)
        refine lv_goto (tgt := 2) hx hb dX3_enter_66 (by decide) ?_
        exact ih2 x2_63 M _ _ _ hw hP hS (lv_sub hl [1, 2, 0] rfl)
      intro x2 M H locs ls hw hP hS hl
      replace hw : lbX3_enter_2 k0 p1 Q (lpX3_enter_2 k0 p1 Q n2) x2 M := hw
      unfold lbX3_enter_2 at hw
      refine lv_iload_n hx hb dX3_enter_2 rfl (lv_at hl 2 rfl) ?_
      refine lv_aload_n hx hb dX3_enter_3 rfl (lv_at hl 0 rfl) ?_
      refine pt_get F hP (pt_c3 _ hk0) (pt_l3 hk0) inX3 rfl 0 (by decide) kw_289 rfl rfl dX3_enter_4 ?_
      refine pt_get F hP (pt_c1 _ pt_k1) (pt_l1 pt_k1) inX1 rfl 3 (by decide) kw_232 rfl rfl dX3_enter_7 ?_
      refine lv_icmp_ge (tgt := 69) hx hb dX3_enter_10 (by decide) (fun hc10 => ?_) (fun hc10 => ?_)
      · replace hw := hw.1 hc10
        exact W.vret hx hb hr (fun t ht hW => ⟨⟨M, rfl, hw, by unfold pt_B; rw [ht]; exact hP⟩, hS.F ht⟩) hS.2.2 dX3_enter_69
      · replace hw := hw.2 hc10
        refine lv_iload_n hx hb dX3_enter_13 rfl (lv_at hl 1 rfl) ?_
        refine lv_iload_n hx hb dX3_enter_14 rfl (lv_at hl 2 rfl) ?_
        refine pt_calli (pt_runSN (n := 2) (As := [.int p1, .int x2]) (rest := []) F hP (mtX7_has l D cA ad hI _ p1 x2 M _ hw) kw_449 kw_724 kw_52 kw_448 ⟨by decide, by decide, by decide +kernel⟩ ⟨rfl, rfl, Nat.le_of_ble_eq_true rfl, Nat.le_of_ble_eq_true rfl⟩ rfl hl.1 rfl (Nat.le_of_ble_eq_true rfl) dX3_enter_15 ⟨Nat.zero_le _, Nat.zero_le _⟩) hS (fun _ h => h) (fun r_15 M_15 H locs hw hP hS _ _ => ?_)
        refine lv_if_eq (tgt := 63) hx hb dX3_enter_18 (by decide) (fun hc18 => ?_) (fun hc18 => ?_)
        · replace hw := hw.1 hc18
          exact J63 x2 M_15 _ _ _ hw hP hS (lv_sub hl [0, 1, 2] rfl)
        · replace hw := hw.2 hc18
          refine lv_aload_n hx hb dX3_enter_21 rfl (lv_at hl 0 rfl) ?_
          refine pt_get F hP (pt_c3 _ hk0) (pt_l3 hk0) inX3 rfl 1 (by decide) kw_290 rfl rfl dX3_enter_22 ?_
          refine lv_dup hx hb dX3_enter_25 rfl ?_
          refine pt_get F hP (pt_c4 _ (pt_3s hk0)) (pt_l4 (pt_3s hk0)) inX4 rfl 3 (by decide) kw_278 rfl rfl dX3_enter_26 ?_
          refine lv_iload_n hx hb dX3_enter_29 rfl (lv_at hl 2 rfl) ?_
          refine pt_calli (pt_runSN (n := 1) (As := [.int x2]) (rest := [.int (M_15 (k0 + 1) 3), .ref (ad (k0 + 1))]) F hP (mtX7_setOf l D cA ad hI _ x2 M_15 _ hw) kw_103 kw_725 kw_52 kw_102 ⟨by decide, by decide, by decide +kernel⟩ ⟨rfl, rfl, Nat.le_of_ble_eq_true rfl, Nat.le_of_ble_eq_true rfl⟩ rfl hl.1 rfl (Nat.le_of_ble_eq_true rfl) dX3_enter_30 ⟨Nat.zero_le _, Nat.zero_le _⟩) hS (fun _ h => h) (fun r_30 M_30 H locs hw hP hS _ _ => ?_)
          refine lv_ior hx hb dX3_enter_33 ?_
          refine pt_put F hP hD hS (pt_c4 _ (pt_3s hk0)) (pt_l4 (pt_3s hk0)) inX4 tyX4 tyX4_ok nmX4 rfl 3 (by decide) kw_278 rfl rfl rfl rfl (Nat.le_of_ble_eq_true rfl) (pt_c4 _ (pt_3s hk0)) dX3_enter_34 (fun M_34 H locs eM_34 hP hS => ?_)
          replace hw := hw M_34 eM_34
          refine lv_aload_n hx hb dX3_enter_37 rfl (lv_at hl 0 rfl) ?_
          refine pt_get F hP (pt_c3 _ hk0) (pt_l3 hk0) inX3 rfl 1 (by decide) kw_290 rfl rfl dX3_enter_38 ?_
          refine pt_get F hP (pt_c4 _ (pt_3s hk0)) (pt_l4 (pt_3s hk0)) inX4 rfl 0 (by decide) kw_268 rfl rfl dX3_enter_41 ?_
          refine lv_iload_n hx hb dX3_enter_44 rfl (lv_at hl 2 rfl) ?_
          refine lv_iconst (v := 0) hx hb dX3_enter_45 (by decide) ?_
          have hv46 := hw.1
          replace hw := hw.2
          refine pt_iast F hP hD hS (pt_4a (pt_3s hk0)) hv46 dX3_enter_46 (fun M_46 H locs eM_46 hP hS => ?_)
          replace hw := hw M_46 eM_46
          refine lv_aload_n hx hb dX3_enter_47 rfl (lv_at hl 0 rfl) ?_
          refine lv_aload_n hx hb dX3_enter_48 rfl (lv_at hl 0 rfl) ?_
          refine pt_get F hP (pt_c3 _ hk0) (pt_l3 hk0) inX3 rfl 0 (by decide) kw_289 rfl rfl dX3_enter_49 ?_
          refine pt_get F hP (pt_c1 _ pt_k1) (pt_l1 pt_k1) inX1 rfl 0 (by decide) kw_224 rfl rfl dX3_enter_52 ?_
          refine lv_iload_n hx hb dX3_enter_55 rfl (lv_at hl 2 rfl) ?_
          have hv56 := hw.1
          replace hw := hw.2
          refine pt_alds F hP hv56 dX3_enter_56 ?_
          refine pt_get F hP (pt_c5 _ (pt_ks hv56)) (pt_l5 (pt_ks hv56)) inX5 rfl 0 (by decide) kw_131 rfl rfl dX3_enter_57 ?_
          refine pt_callv (pt_runV (n := 1) (As := [.ref (ad ((pt_s x2) + 1))]) (rest := []) F hP (pt_c3 _ hk0) (pt_l3 hk0) rfl (mtX3_act l D cA ad hI _ k0 hk0 ((pt_s x2) + 1) (pt_5e (pt_ks hv56)) M_46 _ hw) kw_729 kw_726 kw_57 kw_728 kw_6 ⟨by decide, by decide, by decide +kernel⟩ ⟨rfl, rfl, Nat.le_of_ble_eq_true rfl, Nat.le_of_ble_eq_true rfl⟩ rfl hl.1 rfl (Nat.le_of_ble_eq_true rfl) dX3_enter_60 ⟨Nat.zero_le _, Nat.zero_le _⟩) hS (fun _ h => h) (fun M_60 H locs hw hP hS _ _ => ?_)
          exact J63 x2 M_60 _ _ _ hw hP hS (lv_sub hl [0, 1, 2] rfl)
  unfold wpX3_enter at hw
  refine lv_iconst (v := 0) hx hb dX3_enter_0 (by decide) ?_
  refine lv_istore_n (lv' := [(2, .int 0), (0, .ref (ad k0)), (1, .int p1)]) hx hb dX3_enter_1 rfl hl (by decide) rfl (fun ls hl => ?_)
  obtain ⟨n_, hw⟩ := hw
  exact L2 n_ 0 M _ _ _ hw hP hS (lv_sub hl [1, 2, 0] rfl)
-- ===== X3_targetsOf
def wjX3_targetsOf_97 (k0 : Nat) (k1 : Nat) (Q : Int32 → pt_M → Prop)  (xs0 : Int32) (M : pt_M) : Prop :=
  Q xs0 M
def wpX3_targetsOf (k0 : Nat) (k1 : Nat) (M : pt_M) (Q : Int32 → pt_M → Prop) : Prop :=
  vp_in (M k1 4) 20 ∧ (wpX5_isMark (pt_s (M k1 4)) M (fun (r_12 : Int32) (M_12 : pt_M) => (¬ r_12 = 0 → vp_in (M_12 k1 4) 20 ∧ (((M_12 ((k0 + 1) + 2) (Int32.toNatClampNeg (M_12 k1 4))) = 0 → vp_in (M_12 k1 4) 20 ∧ (∀ x2_69 : Int32, x2_69 = (M_12 (pt_s (M_12 k1 4)) 3) → (¬ x2_69 = (M_12 k1 5) → wpX7_setOf x2_69 M_12 (fun (r_94 : Int32) (M_94 : pt_M) => wjX3_targetsOf_97 k0 k1 Q r_94 M_94)) ∧ (x2_69 = (M_12 k1 5) → vp_in x2_69 20 ∧ (wjX3_targetsOf_97 k0 k1 Q (M_12 (pt_s x2_69) 6) M_12)))) ∧ (¬ (M_12 ((k0 + 1) + 2) (Int32.toNatClampNeg (M_12 k1 4))) = 0 → vp_in (M_12 k1 4) 20 ∧ (Q (M_12 ((k0 + 1) + 2) (Int32.toNatClampNeg (M_12 k1 4))) M_12)))) ∧ (r_12 = 0 → wpX7_setOf (M_12 k1 4) M_12 (fun (r_22 : Int32) (M_22 : pt_M) => Q r_22 M_22))))
set_option maxHeartbeats 4000000 in
set_option maxRecDepth 100000 in
theorem mtX3_targetsOf (l : Launch) (D : va_G) (cA : Nat → ClassId) (ad : Nat → Nat) (hI : pt_I ad) (sz : Nat) (k0 : Nat) (hk0 : pt_kd k0 = 3) (k1 : Nat) (hk1 : pt_kd k1 = 6) (M : pt_M) (Q : Int32 → pt_M → Prop) (hw : wpX3_targetsOf k0 k1 M Q) : Met l yX3_targetsOf (Cond.code yX3_targetsOf cX3_targetsOf 3 (some .int) :: lw_all) ({ frames := 1, cells := 0, slots := 0, locals := 20 } : Room) (va_Pc [.ref (ad k0), .ref (ad k1)] (pt_P D cA ad sz M)) (va_Qi Q (pt_B D cA ad) (pt_fr ad sz)) 0 0 (pt_fr ad sz) := by
  refine Met.ofW (cc := cX3_targetsOf) (maxL := 3) (ret := (some .int)) (by decide) rfl ?_
  intro p e s m args below meth c s₁ B hml hv
  obtain ⟨rfl, hsz, hP, hK⟩ := hv
  have hx := B.exec
  have hb := B.bytes
  have hr := B.returns
  have hts0 := atoms_spec (ws := (Cond.code yX3_targetsOf cX3_targetsOf 3 (some .int) :: lw_all)) B.pre
  have hown : s.vm.findClass RX3 = some m.cls := findClass_of_methodNamed B.named
  have hlocks := B.notSynchronized
  subst hsz
  have F : pt_F p m c cX3_targetsOf 3 s _ RX3 D cA := ⟨⟨hx, hb, hml, hown, fun w h => hts0 w (List.mem_cons_of_mem _ h)⟩, hK⟩
  have hD : ∀ M, va_D (pt_fr ad s.heap.size) (pt_W cA ad M) := pt_D hI (fun k h => Or.inl ⟨k, h, rfl⟩)
  have hS : va_S (pt_fr ad s.heap.size) s.heap s.heap [] := va_S.rf
  have hl := lv_entry ([.ref (ad k0), .ref (ad k1)]) (n := 3) (Nat.le_of_ble_eq_true rfl)
  rw [lg_entry_eq]
  generalize (lg_sl ([.ref (ad k0), .ref (ad k1)]) ++ List.replicate (3 - (lg_sl ([.ref (ad k0), .ref (ad k1)])).length) Slot.unset).toArray = ls at hl ⊢
  have hl : lv_has ls 3 [(0, .ref (ad k0)), (1, .ref (ad k1))] := hl
  have J97 : ∀ (xs0 : Int32) (M : pt_M) (H : Heap) (locs : List Loc) (ls : Array Slot), wjX3_targetsOf_97 k0 k1 Q xs0 M → va_P D pt_cl (pt_W cA ad M) H → va_S (pt_fr ad s.heap.size) s.heap H locs → lv_has ls 3 [] → W p l e (headSpec (Cond.code yX3_targetsOf cX3_targetsOf 3 (some .int) :: lw_all) ({ frames := 1, cells := 0, slots := 0, locals := 20 } : Room)).room s m ([.ref (ad k0), .ref (ad k1)] : List Value).toArray below meth c H locs 0 0 (MQ below (va_Qi Q (pt_B D cA ad) (pt_fr ad s.heap.size)) ([.ref (ad k0), .ref (ad k1)] : List Value).toArray s 0 0 (pt_fr ad s.heap.size)) (F0 m 97 ls [.int xs0]) := by
    intro xs0 M H locs ls hw hP hS hl
    unfold wjX3_targetsOf_97 at hw
    exact W.iret (v := xs0) hx hb hr (fun t ht hW => ⟨⟨xs0, M, rfl, hw, by unfold pt_B; rw [ht]; exact hP⟩, hS.F ht⟩) hS.2.2 dX3_targetsOf_97
  unfold wpX3_targetsOf at hw
  refine lv_aload_n hx hb dX3_targetsOf_0 rfl (lv_at hl 0 rfl) ?_
  refine pt_get F hP (pt_c3 _ hk0) (pt_l3 hk0) inX3 rfl 0 (by decide) kw_289 rfl rfl dX3_targetsOf_1 ?_
  refine pt_get F hP (pt_c1 _ pt_k1) (pt_l1 pt_k1) inX1 rfl 0 (by decide) kw_224 rfl rfl dX3_targetsOf_4 ?_
  refine lv_aload_n hx hb dX3_targetsOf_7 rfl (lv_at hl 1 rfl) ?_
  refine pt_get F hP (pt_c6 _ hk1) (pt_l6 hk1) inX6 rfl 4 (by decide) kw_193 rfl rfl dX3_targetsOf_8 ?_
  have hv11 := hw.1
  replace hw := hw.2
  refine pt_alds F hP hv11 dX3_targetsOf_11 ?_
  refine pt_calli (pt_runV (n := 0) (As := []) (rest := []) F hP (pt_c5 _ (pt_ks hv11)) (pt_l5 (pt_ks hv11)) rfl (mtX5_isMark l D cA ad hI _ (pt_s (M k1 4)) (pt_ks hv11) M _ hw) kw_567 kw_798 kw_54 kw_565 kw_566 ⟨by decide, by decide, by decide +kernel⟩ ⟨rfl, rfl, Nat.le_of_ble_eq_true rfl, Nat.le_of_ble_eq_true rfl⟩ rfl hl.1 rfl (Nat.le_of_ble_eq_true rfl) dX3_targetsOf_12 ⟨Nat.zero_le _, Nat.zero_le _⟩) hS (fun _ h => h) (fun r_12 M_12 H locs hw hP hS _ _ => ?_)
  refine lv_if_ne (tgt := 26) hx hb dX3_targetsOf_15 (by decide) (fun hc15 => ?_) (fun hc15 => ?_)
  · replace hw := hw.1 hc15
    refine lv_aload_n hx hb dX3_targetsOf_26 rfl (lv_at hl 0 rfl) ?_
    refine pt_get F hP (pt_c3 _ hk0) (pt_l3 hk0) inX3 rfl 1 (by decide) kw_290 rfl rfl dX3_targetsOf_27 ?_
    refine pt_get F hP (pt_c4 _ (pt_3s hk0)) (pt_l4 (pt_3s hk0)) inX4 rfl 1 (by decide) kw_271 rfl rfl dX3_targetsOf_30 ?_
    refine lv_aload_n hx hb dX3_targetsOf_33 rfl (lv_at hl 1 rfl) ?_
    refine pt_get F hP (pt_c6 _ hk1) (pt_l6 hk1) inX6 rfl 4 (by decide) kw_193 rfl rfl dX3_targetsOf_34 ?_
    have hv37 := hw.1
    replace hw := hw.2
    refine pt_iald F hP (pt_4r (pt_3s hk0)) hv37 dX3_targetsOf_37 ?_
    refine lv_if_eq (tgt := 54) hx hb dX3_targetsOf_38 (by decide) (fun hc38 => ?_) (fun hc38 => ?_)
    · replace hw := hw.1 hc38
      refine lv_aload_n hx hb dX3_targetsOf_54 rfl (lv_at hl 0 rfl) ?_
      refine pt_get F hP (pt_c3 _ hk0) (pt_l3 hk0) inX3 rfl 0 (by decide) kw_289 rfl rfl dX3_targetsOf_55 ?_
      refine pt_get F hP (pt_c1 _ pt_k1) (pt_l1 pt_k1) inX1 rfl 0 (by decide) kw_224 rfl rfl dX3_targetsOf_58 ?_
      refine lv_aload_n hx hb dX3_targetsOf_61 rfl (lv_at hl 1 rfl) ?_
      refine pt_get F hP (pt_c6 _ hk1) (pt_l6 hk1) inX6 rfl 4 (by decide) kw_193 rfl rfl dX3_targetsOf_62 ?_
      have hv65 := hw.1
      replace hw := hw.2
      refine pt_alds F hP hv65 dX3_targetsOf_65 ?_
      refine pt_get F hP (pt_c5 _ (pt_ks hv65)) (pt_l5 (pt_ks hv65)) inX5 rfl 3 (by decide) kw_142 rfl rfl dX3_targetsOf_66 ?_
      refine lv_topi (fun x2_69 ex2_69 => ?_)
      replace hw := hw x2_69 ex2_69
      refine lv_istore_n (lv' := [(2, .int x2_69), (0, .ref (ad k0)), (1, .ref (ad k1))]) hx hb dX3_targetsOf_69 rfl hl (by decide) rfl (fun ls hl => ?_)
      refine lv_iload_n hx hb dX3_targetsOf_70 rfl (lv_at hl 0 rfl) ?_
      refine lv_aload_n hx hb dX3_targetsOf_71 rfl (lv_at hl 2 rfl) ?_
      refine pt_get F hP (pt_c6 _ hk1) (pt_l6 hk1) inX6 rfl 5 (by decide) kw_196 rfl rfl dX3_targetsOf_72 ?_
      refine lv_icmp_ne (tgt := 93) hx hb dX3_targetsOf_75 (by decide) (fun hc75 => ?_) (fun hc75 => ?_)
      · replace hw := hw.1 hc75
        refine lv_iload_n hx hb dX3_targetsOf_93 rfl (lv_at hl 0 rfl) ?_
        refine pt_calli (pt_runSN (n := 1) (As := [.int x2_69]) (rest := []) F hP (mtX7_setOf l D cA ad hI _ x2_69 M_12 _ hw) kw_103 kw_725 kw_52 kw_102 ⟨by decide, by decide, by decide +kernel⟩ ⟨rfl, rfl, Nat.le_of_ble_eq_true rfl, Nat.le_of_ble_eq_true rfl⟩ rfl hl.1 rfl (Nat.le_of_ble_eq_true rfl) dX3_targetsOf_94 ⟨Nat.zero_le _, Nat.zero_le _⟩) hS (fun _ h => h) (fun r_94 M_94 H locs hw hP hS _ _ => ?_)
        exact J97 r_94 M_94 _ _ _ hw hP hS (lv_sub hl [] rfl)
      · replace hw := hw.2 hc75
        refine lv_aload_n hx hb dX3_targetsOf_78 rfl (lv_at hl 1 rfl) ?_
        refine pt_get F hP (pt_c3 _ hk0) (pt_l3 hk0) inX3 rfl 0 (by decide) kw_289 rfl rfl dX3_targetsOf_79 ?_
        refine pt_get F hP (pt_c1 _ pt_k1) (pt_l1 pt_k1) inX1 rfl 0 (by decide) kw_224 rfl rfl dX3_targetsOf_82 ?_
        refine lv_iload_n hx hb dX3_targetsOf_85 rfl (lv_at hl 0 rfl) ?_
        have hv86 := hw.1
        replace hw := hw.2
        refine pt_alds F hP hv86 dX3_targetsOf_86 ?_
        refine pt_get F hP (pt_c5 _ (pt_ks hv86)) (pt_l5 (pt_ks hv86)) inX5 rfl 6 (by decide) kw_151 rfl rfl dX3_targetsOf_87 ?_
        refine lv_goto (tgt := 97) hx hb dX3_targetsOf_90 (by decide) ?_
        exact J97 (M_12 (pt_s x2_69) 6) M_12 _ _ _ hw hP hS (lv_sub hl [] rfl)
    · replace hw := hw.2 hc38
      refine lv_aload_n hx hb dX3_targetsOf_41 rfl (lv_at hl 0 rfl) ?_
      refine pt_get F hP (pt_c3 _ hk0) (pt_l3 hk0) inX3 rfl 1 (by decide) kw_290 rfl rfl dX3_targetsOf_42 ?_
      refine pt_get F hP (pt_c4 _ (pt_3s hk0)) (pt_l4 (pt_3s hk0)) inX4 rfl 1 (by decide) kw_271 rfl rfl dX3_targetsOf_45 ?_
      refine lv_aload_n hx hb dX3_targetsOf_48 rfl (lv_at hl 1 rfl) ?_
      refine pt_get F hP (pt_c6 _ hk1) (pt_l6 hk1) inX6 rfl 4 (by decide) kw_193 rfl rfl dX3_targetsOf_49 ?_
      have hv52 := hw.1
      replace hw := hw.2
      refine pt_iald F hP (pt_4r (pt_3s hk0)) hv52 dX3_targetsOf_52 ?_
      exact W.iret (v := (M_12 ((k0 + 1) + 2) (Int32.toNatClampNeg (M_12 k1 4)))) hx hb hr (fun t ht hW => ⟨⟨(M_12 ((k0 + 1) + 2) (Int32.toNatClampNeg (M_12 k1 4))), M_12, rfl, hw, by unfold pt_B; rw [ht]; exact hP⟩, hS.F ht⟩) hS.2.2 dX3_targetsOf_53
  · replace hw := hw.2 hc15
    refine lv_aload_n hx hb dX3_targetsOf_18 rfl (lv_at hl 1 rfl) ?_
    refine pt_get F hP (pt_c6 _ hk1) (pt_l6 hk1) inX6 rfl 4 (by decide) kw_193 rfl rfl dX3_targetsOf_19 ?_
    refine pt_calli (pt_runSN (n := 1) (As := [.int (M_12 k1 4)]) (rest := []) F hP (mtX7_setOf l D cA ad hI _ (M_12 k1 4) M_12 _ hw) kw_103 kw_725 kw_52 kw_102 ⟨by decide, by decide, by decide +kernel⟩ ⟨rfl, rfl, Nat.le_of_ble_eq_true rfl, Nat.le_of_ble_eq_true rfl⟩ rfl hl.1 rfl (Nat.le_of_ble_eq_true rfl) dX3_targetsOf_22 ⟨Nat.zero_le _, Nat.zero_le _⟩) hS (fun _ h => h) (fun r_22 M_22 H locs hw hP hS _ _ => ?_)
    exact W.iret (v := r_22) hx hb hr (fun t ht hW => ⟨⟨r_22, M_22, rfl, hw, by unfold pt_B; rw [ht]; exact hP⟩, hS.F ht⟩) hS.2.2 dX3_targetsOf_25
end
section
-- ===== X3_step
def wjX3_step_142 (k0 : Nat) (p1 : Int32) (Q : Int32 → pt_M → Prop) (R75 : Int32 → Int32 → pt_M → Prop) (x4 : Int32) (x5 : Int32) (M : pt_M) : Prop :=
  vp_in x5 30 ∧ (vp_in (M (k0 + 7) (Int32.toNatClampNeg x5)) 30 ∧ (vp_in (M (k0 + 7) (Int32.toNatClampNeg x5)) 30 ∧ ∀ M_157 : pt_M, M_157 = pt_st M (k0 + 5) (Int32.toNatClampNeg (M (k0 + 7) (Int32.toNatClampNeg x5))) ((M (k0 + 5) (Int32.toNatClampNeg (M (k0 + 7) (Int32.toNatClampNeg x5)))) + 1) → vp_in x5 30 ∧ (wpX7_setOf (M_157 (k0 + 7) (Int32.toNatClampNeg x5)) M_157 (fun (r_170 : Int32) (M_170 : pt_M) => ∀ M_174 : pt_M, M_174 = pt_st M_170 k0 3 ((M_157 k0 3) ||| r_170) → ∀ x5_177 : Int32, x5_177 = x5 + 1 → R75 x4 x5_177 M_174))))
def lbX3_step_75 (k0 : Nat) (p1 : Int32) (Q : Int32 → pt_M → Prop)  (R75 : Int32 → Int32 → pt_M → Prop) (x4 : Int32) (x5 : Int32) (M : pt_M) : Prop :=
  ((M k0 10) ≤ x5 → wpX3_enter k0 x4 M (fun (M_186 : pt_M) => Q (M_186 k0 10) M_186)) ∧ (¬ (M k0 10) ≤ x5 → vp_in x5 30 ∧ (vp_in (M (k0 + 7) (Int32.toNatClampNeg x5)) 30 ∧ (wpX3_act k0 ((pt_t (M (k0 + 7) (Int32.toNatClampNeg x5))) + 1) M (fun (M_107 : pt_M) => ((M_107 (pt_t (M (k0 + 7) (Int32.toNatClampNeg x5))) 4) = (-1) → wjX3_step_142 k0 p1 Q R75 x4 x5 M_107) ∧ (¬ (M_107 (pt_t (M (k0 + 7) (Int32.toNatClampNeg x5))) 4) = (-1) → wpX3_targetsOf k0 (pt_t (M (k0 + 7) (Int32.toNatClampNeg x5))) M_107 (fun (r_128 : Int32) (M_128 : pt_M) => wpX1_enteredInto r_128 (M_128 (pt_t (M (k0 + 7) (Int32.toNatClampNeg x5))) 5) M_128 (fun (r_136 : Int32) (M_136 : pt_M) => ∀ x4_140 : Int32, x4_140 = (x4 ||| r_136) → wjX3_step_142 k0 p1 Q R75 x4_140 x5 M_136)))))))
def lpX3_step_75 (k0 : Nat) (p1 : Int32) (Q : Int32 → pt_M → Prop)  : Nat → Int32 → Int32 → pt_M → Prop
  | 0 => fun _ _ _ => False
  | n + 1 => fun x4 x5 M => lbX3_step_75 k0 p1 Q (lpX3_step_75 k0 p1 Q n) x4 x5 M
def lbX3_step_22 (k0 : Nat) (p1 : Int32) (Q : Int32 → pt_M → Prop)  (R22 : Int32 → Int32 → pt_M → Prop) (x3 : Int32) (x4 : Int32) (M : pt_M) : Prop :=
  ((M k0 10) ≤ x4 → wpX3_makeRecords k0 x3 M (fun (M_61 : pt_M) => wpX3_leave k0 x3 M_61 (fun (M_66 : pt_M) => ∃ n : Nat, lpX3_step_75 k0 p1 Q n 0 0 M_66))) ∧ (¬ (M k0 10) ≤ x4 → vp_in x4 30 ∧ (vp_in (M (k0 + 7) (Int32.toNatClampNeg x4)) 30 ∧ (wpX3_leftBy k0 (pt_t (M (k0 + 7) (Int32.toNatClampNeg x4))) M (fun (r_48 : Int32) (M_48 : pt_M) => ∀ x3_52 : Int32, x3_52 = (x3 ||| r_48) → ∀ x4_53 : Int32, x4_53 = x4 + 1 → R22 x3_52 x4_53 M_48))))
def lpX3_step_22 (k0 : Nat) (p1 : Int32) (Q : Int32 → pt_M → Prop)  : Nat → Int32 → Int32 → pt_M → Prop
  | 0 => fun _ _ _ => False
  | n + 1 => fun x3 x4 M => lbX3_step_22 k0 p1 Q (lpX3_step_22 k0 p1 Q n) x3 x4 M
def wpX3_step (k0 : Nat) (p1 : Int32) (M : pt_M) (Q : Int32 → pt_M → Prop) : Prop :=
  wpX3_openBy k0 p1 M (fun (r_2 : Int32) (M_2 : pt_M) => (¬ r_2 = 0 → wpX3_choose k0 r_2 M_2 (fun (M_14 : pt_M) => ∃ n : Nat, lpX3_step_22 k0 p1 Q n 0 0 M_14)) ∧ (r_2 = 0 → Q 0 M_2))
set_option maxHeartbeats 4000000 in
set_option maxRecDepth 100000 in
theorem mtX3_step (l : Launch) (D : va_G) (cA : Nat → ClassId) (ad : Nat → Nat) (hI : pt_I ad) (sz : Nat) (k0 : Nat) (hk0 : pt_kd k0 = 3) (p1 : Int32) (M : pt_M) (Q : Int32 → pt_M → Prop) (hw : wpX3_step k0 p1 M Q) : Met l yX3_step (Cond.code yX3_step cX3_step 7 (some .int) :: lw_all) ({ frames := 4, cells := 0, slots := 0, locals := 89 } : Room) (va_Pc [.ref (ad k0), .int p1] (pt_P D cA ad sz M)) (va_Qi Q (pt_B D cA ad) (pt_fr ad sz)) 0 0 (pt_fr ad sz) := by
  refine Met.ofW (cc := cX3_step) (maxL := 7) (ret := (some .int)) (by decide) rfl ?_
  intro p e s m args below meth c s₁ B hml hv
  obtain ⟨rfl, hsz, hP, hK⟩ := hv
  have hx := B.exec
  have hb := B.bytes
  have hr := B.returns
  have hts0 := atoms_spec (ws := (Cond.code yX3_step cX3_step 7 (some .int) :: lw_all)) B.pre
  have hown : s.vm.findClass RX3 = some m.cls := findClass_of_methodNamed B.named
  have hlocks := B.notSynchronized
  subst hsz
  have F : pt_F p m c cX3_step 7 s _ RX3 D cA := ⟨⟨hx, hb, hml, hown, fun w h => hts0 w (List.mem_cons_of_mem _ h)⟩, hK⟩
  have hD : ∀ M, va_D (pt_fr ad s.heap.size) (pt_W cA ad M) := pt_D hI (fun k h => Or.inl ⟨k, h, rfl⟩)
  have hS : va_S (pt_fr ad s.heap.size) s.heap s.heap [] := va_S.rf
  have hl := lv_entry ([.ref (ad k0), .int p1]) (n := 7) (Nat.le_of_ble_eq_true rfl)
  rw [lg_entry_eq]
  generalize (lg_sl ([.ref (ad k0), .int p1]) ++ List.replicate (7 - (lg_sl ([.ref (ad k0), .int p1])).length) Slot.unset).toArray = ls at hl ⊢
  have hl : lv_has ls 7 [(0, .ref (ad k0)), (1, .int p1)] := hl
  have L75 : ∀ (n75 : Nat) (x4 : Int32) (x5 : Int32) (M : pt_M) (H : Heap) (locs : List Loc) (ls : Array Slot), lpX3_step_75 k0 p1 Q n75 x4 x5 M → va_P D pt_cl (pt_W cA ad M) H → va_S (pt_fr ad s.heap.size) s.heap H locs → lv_has ls 7 [(0, .ref (ad k0)), (4, .int x4), (5, .int x5)] → W p l e (headSpec (Cond.code yX3_step cX3_step 7 (some .int) :: lw_all) ({ frames := 4, cells := 0, slots := 0, locals := 89 } : Room)).room s m ([.ref (ad k0), .int p1] : List Value).toArray below meth c H locs 0 0 (MQ below (va_Qi Q (pt_B D cA ad) (pt_fr ad s.heap.size)) ([.ref (ad k0), .int p1] : List Value).toArray s 0 0 (pt_fr ad s.heap.size)) (F0 m 75 ls []) := by
    intro n75
    induction n75 with
    | zero => intro x4 x5 M H locs ls hw; exact hw.elim
    | succ n75 ih75 =>
      have J142 : ∀ (x4 : Int32) (x5 : Int32) (M : pt_M) (H : Heap) (locs : List Loc) (ls : Array Slot), wjX3_step_142 k0 p1 Q (lpX3_step_75 k0 p1 Q n75) x4 x5 M → va_P D pt_cl (pt_W cA ad M) H → va_S (pt_fr ad s.heap.size) s.heap H locs → lv_has ls 7 [(0, .ref (ad k0)), (4, .int x4), (5, .int x5)] → W p l e (headSpec (Cond.code yX3_step cX3_step 7 (some .int) :: lw_all) ({ frames := 4, cells := 0, slots := 0, locals := 89 } : Room)).room s m ([.ref (ad k0), .int p1] : List Value).toArray below meth c H locs 0 0 (MQ below (va_Qi Q (pt_B D cA ad) (pt_fr ad s.heap.size)) ([.ref (ad k0), .int p1] : List Value).toArray s 0 0 (pt_fr ad s.heap.size)) (F0 m 142 ls []) := by
        intro x4 x5 M H locs ls hw hP hS hl
        unfold wjX3_step_142 at hw
        refine lv_aload_n hx hb dX3_step_142 rfl (lv_at hl 0 rfl) ?_
        refine pt_get F hP (pt_c3 _ hk0) (pt_l3 hk0) inX3 rfl 2 (by decide) kw_293 rfl rfl dX3_step_143 ?_
        refine lv_aload_n hx hb dX3_step_146 rfl (lv_at hl 0 rfl) ?_
        refine pt_get F hP (pt_c3 _ hk0) (pt_l3 hk0) inX3 rfl 9 (by decide) kw_305 rfl rfl dX3_step_147 ?_
        refine lv_iload hx hb dX3_step_150 (lv_at hl 2 rfl) ?_
        have hv152 := hw.1
        replace hw := hw.2
        refine pt_iald F hP (pt_3t hk0) hv152 dX3_step_152 ?_
        refine lv_dup2_11 hx hb dX3_step_153 rfl rfl ?_
        have hv154 := hw.1
        replace hw := hw.2
        refine pt_iald F hP (pt_3f hk0) hv154 dX3_step_154 ?_
        refine lv_iconst (v := 1) hx hb dX3_step_155 (by decide) ?_
        refine lv_iadd hx hb dX3_step_156 ?_
        have hv157 := hw.1
        replace hw := hw.2
        refine pt_iast F hP hD hS (pt_3f hk0) hv157 dX3_step_157 (fun M_157 H locs eM_157 hP hS => ?_)
        replace hw := hw M_157 eM_157
        refine lv_aload_n hx hb dX3_step_158 rfl (lv_at hl 0 rfl) ?_
        refine lv_dup hx hb dX3_step_159 rfl ?_
        refine pt_get F hP (pt_c3 _ hk0) (pt_l3 hk0) inX3 rfl 3 (by decide) kw_296 rfl rfl dX3_step_160 ?_
        refine lv_aload_n hx hb dX3_step_163 rfl (lv_at hl 0 rfl) ?_
        refine pt_get F hP (pt_c3 _ hk0) (pt_l3 hk0) inX3 rfl 9 (by decide) kw_305 rfl rfl dX3_step_164 ?_
        refine lv_iload hx hb dX3_step_167 (lv_at hl 2 rfl) ?_
        have hv169 := hw.1
        replace hw := hw.2
        refine pt_iald F hP (pt_3t hk0) hv169 dX3_step_169 ?_
        refine pt_calli (pt_runSN (n := 1) (As := [.int (M_157 (k0 + 7) (Int32.toNatClampNeg x5))]) (rest := [.int (M_157 k0 3), .ref (ad k0)]) F hP (mtX7_setOf l D cA ad hI _ (M_157 (k0 + 7) (Int32.toNatClampNeg x5)) M_157 _ hw) kw_103 kw_725 kw_52 kw_102 ⟨by decide, by decide, by decide +kernel⟩ ⟨rfl, rfl, Nat.le_of_ble_eq_true rfl, Nat.le_of_ble_eq_true rfl⟩ rfl hl.1 rfl (Nat.le_of_ble_eq_true rfl) dX3_step_170 ⟨Nat.zero_le _, Nat.zero_le _⟩) hS (fun _ h => h) (fun r_170 M_170 H locs hw hP hS _ _ => ?_)
        refine lv_ior hx hb dX3_step_173 ?_
        refine pt_put F hP hD hS (pt_c3 _ hk0) (pt_l3 hk0) inX3 tyX3 tyX3_ok nmX3 rfl 3 (by decide) kw_296 rfl rfl rfl rfl (Nat.le_of_ble_eq_true rfl) (pt_c3 _ hk0) dX3_step_174 (fun M_174 H locs eM_174 hP hS => ?_)
        replace hw := hw M_174 eM_174
        obtain ⟨x5_177, ex5_177⟩ : ∃ y : Int32, y = x5 + 1 := ⟨_, rfl⟩
        replace hw := hw x5_177 ex5_177
        refine lv_iinc (v := x5_177) (lv' := [(5, .int x5_177), (0, .ref (ad k0)), (4, .int x4)]) hx hb dX3_step_177 hl (k := 2) rfl (by rw [ex5_177]; rfl) (by decide) rfl (fun ls hl => ?_)
        refine lv_goto (tgt := 75) hx hb dX3_step_180 (by decide) ?_
        exact ih75 x4 x5_177 M_174 _ _ _ hw hP hS (lv_sub hl [1, 2, 0] rfl)
      intro x4 x5 M H locs ls hw hP hS hl
      replace hw : lbX3_step_75 k0 p1 Q (lpX3_step_75 k0 p1 Q n75) x4 x5 M := hw
      unfold lbX3_step_75 at hw
      refine lv_iload hx hb dX3_step_75 (lv_at hl 2 rfl) ?_
      refine lv_aload_n hx hb dX3_step_77 rfl (lv_at hl 0 rfl) ?_
      refine pt_get F hP (pt_c3 _ hk0) (pt_l3 hk0) inX3 rfl 10 (by decide) kw_306 rfl rfl dX3_step_78 ?_
      refine lv_icmp_ge (tgt := 183) hx hb dX3_step_81 (by decide) (fun hc81 => ?_) (fun hc81 => ?_)
      · replace hw := hw.1 hc81
        refine lv_aload_n hx hb dX3_step_183 rfl (lv_at hl 0 rfl) ?_
        refine lv_iload hx hb dX3_step_184 (lv_at hl 1 rfl) ?_
        refine pt_callv (pt_runV (n := 1) (As := [.int x4]) (rest := []) F hP (pt_c3 _ hk0) (pt_l3 hk0) rfl (mtX3_enter l D cA ad hI _ k0 hk0 x4 M _ hw) kw_723 kw_816 kw_57 kw_721 kw_722 ⟨by decide, by decide, by decide +kernel⟩ ⟨rfl, rfl, Nat.le_of_ble_eq_true rfl, Nat.le_of_ble_eq_true rfl⟩ rfl hl.1 rfl (Nat.le_of_ble_eq_true rfl) dX3_step_186 ⟨Nat.zero_le _, Nat.zero_le _⟩) hS (fun _ h => h) (fun M_186 H locs hw hP hS _ _ => ?_)
        refine lv_aload_n hx hb dX3_step_189 rfl (lv_at hl 0 rfl) ?_
        refine pt_get F hP (pt_c3 _ hk0) (pt_l3 hk0) inX3 rfl 10 (by decide) kw_306 rfl rfl dX3_step_190 ?_
        exact W.iret (v := (M_186 k0 10)) hx hb hr (fun t ht hW => ⟨⟨(M_186 k0 10), M_186, rfl, hw, by unfold pt_B; rw [ht]; exact hP⟩, hS.F ht⟩) hS.2.2 dX3_step_193
      · replace hw := hw.2 hc81
        refine lv_aload_n hx hb dX3_step_84 rfl (lv_at hl 0 rfl) ?_
        refine pt_get F hP (pt_c3 _ hk0) (pt_l3 hk0) inX3 rfl 0 (by decide) kw_289 rfl rfl dX3_step_85 ?_
        refine pt_get F hP (pt_c1 _ pt_k1) (pt_l1 pt_k1) inX1 rfl 1 (by decide) kw_227 rfl rfl dX3_step_88 ?_
        refine lv_aload_n hx hb dX3_step_91 rfl (lv_at hl 0 rfl) ?_
        refine pt_get F hP (pt_c3 _ hk0) (pt_l3 hk0) inX3 rfl 9 (by decide) kw_305 rfl rfl dX3_step_92 ?_
        refine lv_iload hx hb dX3_step_95 (lv_at hl 2 rfl) ?_
        have hv97 := hw.1
        replace hw := hw.2
        refine pt_iald F hP (pt_3t hk0) hv97 dX3_step_97 ?_
        have hv98 := hw.1
        replace hw := hw.2
        refine pt_aldt F hP hv98 dX3_step_98 ?_
        refine lv_astore (lv' := [(6, .ref (ad (pt_t (M (k0 + 7) (Int32.toNatClampNeg x5))))), (0, .ref (ad k0)), (4, .int x4), (5, .int x5)]) hx hb dX3_step_99 hl (by decide) rfl (fun ls hl => ?_)
        refine lv_aload_n hx hb dX3_step_101 rfl (lv_at hl 1 rfl) ?_
        refine lv_aload hx hb dX3_step_102 (lv_at hl 0 rfl) ?_
        refine pt_get F hP (pt_c6 _ (pt_kt hv98)) (pt_l6 (pt_kt hv98)) inX6 rfl 0 (by decide) kw_184 rfl rfl dX3_step_104 ?_
        refine pt_callv (pt_runV (n := 1) (As := [.ref (ad ((pt_t (M (k0 + 7) (Int32.toNatClampNeg x5))) + 1))]) (rest := []) F hP (pt_c3 _ hk0) (pt_l3 hk0) rfl (mtX3_act l D cA ad hI _ k0 hk0 ((pt_t (M (k0 + 7) (Int32.toNatClampNeg x5))) + 1) (pt_6a (pt_kt hv98)) M _ hw) kw_729 kw_726 kw_57 kw_728 kw_6 ⟨by decide, by decide, by decide +kernel⟩ ⟨rfl, rfl, Nat.le_of_ble_eq_true rfl, Nat.le_of_ble_eq_true rfl⟩ rfl hl.1 rfl (Nat.le_of_ble_eq_true rfl) dX3_step_107 ⟨Nat.zero_le _, Nat.zero_le _⟩) hS (fun _ h => h) (fun M_107 H locs hw hP hS _ _ => ?_)
        refine lv_aload hx hb dX3_step_110 (lv_at hl 0 rfl) ?_
        refine pt_get F hP (pt_c6 _ (pt_kt hv98)) (pt_l6 (pt_kt hv98)) inX6 rfl 4 (by decide) kw_193 rfl rfl dX3_step_112 ?_
        refine lv_iconst (v := (-1)) hx hb dX3_step_115 (by decide) ?_
        refine lv_icmp_eq (tgt := 142) hx hb dX3_step_116 (by decide) (fun hc116 => ?_) (fun hc116 => ?_)
        · replace hw := hw.1 hc116
          exact J142 x4 x5 M_107 _ _ _ hw hP hS (lv_sub hl [1, 2, 3] rfl)
        · replace hw := hw.2 hc116
          refine lv_iload hx hb dX3_step_119 (lv_at hl 2 rfl) ?_
          refine lv_aload_n hx hb dX3_step_121 rfl (lv_at hl 1 rfl) ?_
          refine pt_get F hP (pt_c3 _ hk0) (pt_l3 hk0) inX3 rfl 0 (by decide) kw_289 rfl rfl dX3_step_122 ?_
          refine lv_aload_n hx hb dX3_step_125 rfl (lv_at hl 1 rfl) ?_
          refine lv_aload hx hb dX3_step_126 (lv_at hl 0 rfl) ?_
          refine pt_calli (pt_runV (n := 1) (As := [.ref (ad (pt_t (M (k0 + 7) (Int32.toNatClampNeg x5))))]) (rest := [.ref (ad 1), .int x4]) F hP (pt_c3 _ hk0) (pt_l3 hk0) rfl (mtX3_targetsOf l D cA ad hI _ k0 hk0 (pt_t (M (k0 + 7) (Int32.toNatClampNeg x5))) (pt_kt hv98) M_107 _ hw) kw_806 kw_803 kw_57 kw_805 kw_18 ⟨by decide, by decide, by decide +kernel⟩ ⟨rfl, rfl, Nat.le_of_ble_eq_true rfl, Nat.le_of_ble_eq_true rfl⟩ rfl hl.1 rfl (Nat.le_of_ble_eq_true rfl) dX3_step_128 ⟨Nat.zero_le _, Nat.zero_le _⟩) hS (fun _ h => h) (fun r_128 M_128 H locs hw hP hS _ _ => ?_)
          refine lv_aload hx hb dX3_step_131 (lv_at hl 0 rfl) ?_
          refine pt_get F hP (pt_c6 _ (pt_kt hv98)) (pt_l6 (pt_kt hv98)) inX6 rfl 5 (by decide) kw_196 rfl rfl dX3_step_133 ?_
          refine pt_calli (pt_runV (n := 2) (As := [.int r_128, .int (M_128 (pt_t (M (k0 + 7) (Int32.toNatClampNeg x5))) 5)]) (rest := [.int x4]) F hP (pt_c1 _ pt_k1) (pt_l1 pt_k1) rfl (mtX1_enteredInto l D cA ad hI _ r_128 (M_128 (pt_t (M (k0 + 7) (Int32.toNatClampNeg x5))) 5) M_128 _ hw) kw_810 kw_807 kw_53 kw_808 kw_809 ⟨by decide, by decide, by decide +kernel⟩ ⟨rfl, rfl, Nat.le_of_ble_eq_true rfl, Nat.le_of_ble_eq_true rfl⟩ rfl hl.1 rfl (Nat.le_of_ble_eq_true rfl) dX3_step_136 ⟨Nat.zero_le _, Nat.zero_le _⟩) hS (fun _ h => h) (fun r_136 M_136 H locs hw hP hS _ _ => ?_)
          refine lv_ior hx hb dX3_step_139 ?_
          refine lv_topi (fun x4_140 ex4_140 => ?_)
          replace hw := hw x4_140 ex4_140
          refine lv_istore (lv' := [(4, .int x4_140), (6, .ref (ad (pt_t (M (k0 + 7) (Int32.toNatClampNeg x5))))), (0, .ref (ad k0)), (5, .int x5)]) hx hb dX3_step_140 hl (by decide) rfl (fun ls hl => ?_)
          exact J142 x4_140 x5 M_136 _ _ _ hw hP hS (lv_sub hl [2, 0, 3] rfl)
  have L22 : ∀ (n22 : Nat) (x3 : Int32) (x4 : Int32) (M : pt_M) (H : Heap) (locs : List Loc) (ls : Array Slot), lpX3_step_22 k0 p1 Q n22 x3 x4 M → va_P D pt_cl (pt_W cA ad M) H → va_S (pt_fr ad s.heap.size) s.heap H locs → lv_has ls 7 [(0, .ref (ad k0)), (3, .int x3), (4, .int x4)] → W p l e (headSpec (Cond.code yX3_step cX3_step 7 (some .int) :: lw_all) ({ frames := 4, cells := 0, slots := 0, locals := 89 } : Room)).room s m ([.ref (ad k0), .int p1] : List Value).toArray below meth c H locs 0 0 (MQ below (va_Qi Q (pt_B D cA ad) (pt_fr ad s.heap.size)) ([.ref (ad k0), .int p1] : List Value).toArray s 0 0 (pt_fr ad s.heap.size)) (F0 m 22 ls []) := by
    intro n22
    induction n22 with
    | zero => intro x3 x4 M H locs ls hw; exact hw.elim
    | succ n22 ih22 =>
      intro x3 x4 M H locs ls hw hP hS hl
      replace hw : lbX3_step_22 k0 p1 Q (lpX3_step_22 k0 p1 Q n22) x3 x4 M := hw
      unfold lbX3_step_22 at hw
      refine lv_iload hx hb dX3_step_22 (lv_at hl 2 rfl) ?_
      refine lv_aload_n hx hb dX3_step_24 rfl (lv_at hl 0 rfl) ?_
      refine pt_get F hP (pt_c3 _ hk0) (pt_l3 hk0) inX3 rfl 10 (by decide) kw_306 rfl rfl dX3_step_25 ?_
      refine lv_icmp_ge (tgt := 59) hx hb dX3_step_28 (by decide) (fun hc28 => ?_) (fun hc28 => ?_)
      · replace hw := hw.1 hc28
        refine lv_aload_n hx hb dX3_step_59 rfl (lv_at hl 0 rfl) ?_
        refine lv_iload_n hx hb dX3_step_60 rfl (lv_at hl 1 rfl) ?_
        refine pt_callv (pt_runV (n := 1) (As := [.int x3]) (rest := []) F hP (pt_c3 _ hk0) (pt_l3 hk0) rfl (mtX3_makeRecords l D cA ad hI _ k0 hk0 x3 M _ hw) kw_797 kw_794 kw_57 kw_796 kw_16 ⟨by decide, by decide, by decide +kernel⟩ ⟨rfl, rfl, Nat.le_of_ble_eq_true rfl, Nat.le_of_ble_eq_true rfl⟩ rfl hl.1 rfl (Nat.le_of_ble_eq_true rfl) dX3_step_61 ⟨Nat.zero_le _, Nat.zero_le _⟩) hS (fun _ h => h) (fun M_61 H locs hw hP hS _ _ => ?_)
        refine lv_aload_n hx hb dX3_step_64 rfl (lv_at hl 0 rfl) ?_
        refine lv_iload_n hx hb dX3_step_65 rfl (lv_at hl 1 rfl) ?_
        refine pt_callv (pt_runV (n := 1) (As := [.int x3]) (rest := []) F hP (pt_c3 _ hk0) (pt_l3 hk0) rfl (mtX3_leave l D cA ad hI _ k0 hk0 x3 M_61 _ hw) kw_802 kw_799 kw_57 kw_801 kw_17 ⟨by decide, by decide, by decide +kernel⟩ ⟨rfl, rfl, Nat.le_of_ble_eq_true rfl, Nat.le_of_ble_eq_true rfl⟩ rfl hl.1 rfl (Nat.le_of_ble_eq_true rfl) dX3_step_66 ⟨Nat.zero_le _, Nat.zero_le _⟩) hS (fun _ h => h) (fun M_66 H locs hw hP hS _ _ => ?_)
        refine lv_iconst (v := 0) hx hb dX3_step_69 (by decide) ?_
        refine lv_istore (lv' := [(4, .int 0), (0, .ref (ad k0)), (3, .int x3)]) hx hb dX3_step_70 hl (by decide) rfl (fun ls hl => ?_)
        refine lv_iconst (v := 0) hx hb dX3_step_72 (by decide) ?_
        refine lv_istore (lv' := [(5, .int 0), (4, .int 0), (0, .ref (ad k0)), (3, .int x3)]) hx hb dX3_step_73 hl (by decide) rfl (fun ls hl => ?_)
        obtain ⟨n_, hw⟩ := hw
        exact L75 n_ 0 0 M_66 _ _ _ hw hP hS (lv_sub hl [2, 1, 0] rfl)
      · replace hw := hw.2 hc28
        refine lv_iload_n hx hb dX3_step_31 rfl (lv_at hl 1 rfl) ?_
        refine lv_aload_n hx hb dX3_step_32 rfl (lv_at hl 0 rfl) ?_
        refine lv_aload_n hx hb dX3_step_33 rfl (lv_at hl 0 rfl) ?_
        refine pt_get F hP (pt_c3 _ hk0) (pt_l3 hk0) inX3 rfl 0 (by decide) kw_289 rfl rfl dX3_step_34 ?_
        refine pt_get F hP (pt_c1 _ pt_k1) (pt_l1 pt_k1) inX1 rfl 1 (by decide) kw_227 rfl rfl dX3_step_37 ?_
        refine lv_aload_n hx hb dX3_step_40 rfl (lv_at hl 0 rfl) ?_
        refine pt_get F hP (pt_c3 _ hk0) (pt_l3 hk0) inX3 rfl 9 (by decide) kw_305 rfl rfl dX3_step_41 ?_
        refine lv_iload hx hb dX3_step_44 (lv_at hl 2 rfl) ?_
        have hv46 := hw.1
        replace hw := hw.2
        refine pt_iald F hP (pt_3t hk0) hv46 dX3_step_46 ?_
        have hv47 := hw.1
        replace hw := hw.2
        refine pt_aldt F hP hv47 dX3_step_47 ?_
        refine pt_calli (pt_runV (n := 1) (As := [.ref (ad (pt_t (M (k0 + 7) (Int32.toNatClampNeg x4))))]) (rest := [.int x3]) F hP (pt_c3 _ hk0) (pt_l3 hk0) rfl (mtX3_leftBy l D cA ad hI _ k0 hk0 (pt_t (M (k0 + 7) (Int32.toNatClampNeg x4))) (pt_kt hv47) M _ hw) kw_793 kw_790 kw_57 kw_792 kw_15 ⟨by decide, by decide, by decide +kernel⟩ ⟨rfl, rfl, Nat.le_of_ble_eq_true rfl, Nat.le_of_ble_eq_true rfl⟩ rfl hl.1 rfl (Nat.le_of_ble_eq_true rfl) dX3_step_48 ⟨Nat.zero_le _, Nat.zero_le _⟩) hS (fun _ h => h) (fun r_48 M_48 H locs hw hP hS _ _ => ?_)
        refine lv_ior hx hb dX3_step_51 ?_
        refine lv_topi (fun x3_52 ex3_52 => ?_)
        replace hw := hw x3_52 ex3_52
        refine lv_istore_n (lv' := [(3, .int x3_52), (0, .ref (ad k0)), (4, .int x4)]) hx hb dX3_step_52 rfl hl (by decide) rfl (fun ls hl => ?_)
        obtain ⟨x4_53, ex4_53⟩ : ∃ y : Int32, y = x4 + 1 := ⟨_, rfl⟩
        replace hw := hw x4_53 ex4_53
        refine lv_iinc (v := x4_53) (lv' := [(4, .int x4_53), (3, .int x3_52), (0, .ref (ad k0))]) hx hb dX3_step_53 hl (k := 2) rfl (by rw [ex4_53]; rfl) (by decide) rfl (fun ls hl => ?_)
        refine lv_goto (tgt := 22) hx hb dX3_step_56 (by decide) ?_
        exact ih22 x3_52 x4_53 M_48 _ _ _ hw hP hS (lv_sub hl [2, 1, 0] rfl)
  unfold wpX3_step at hw
  refine lv_aload_n hx hb dX3_step_0 rfl (lv_at hl 0 rfl) ?_
  refine lv_iload_n hx hb dX3_step_1 rfl (lv_at hl 1 rfl) ?_
  refine pt_calli (pt_runV (n := 1) (As := [.int p1]) (rest := []) F hP (pt_c3 _ hk0) (pt_l3 hk0) rfl (mtX3_openBy l D cA ad hI _ k0 hk0 p1 M _ hw) kw_764 kw_761 kw_57 kw_762 kw_763 ⟨by decide, by decide, by decide +kernel⟩ ⟨rfl, rfl, Nat.le_of_ble_eq_true rfl, Nat.le_of_ble_eq_true rfl⟩ rfl hl.1 rfl (Nat.le_of_ble_eq_true rfl) dX3_step_2 ⟨Nat.zero_le _, Nat.zero_le _⟩) hS (fun _ h => h) (fun r_2 M_2 H locs hw hP hS _ _ => ?_)
  refine lv_istore_n (lv' := [(2, .int r_2), (0, .ref (ad k0)), (1, .int p1)]) hx hb dX3_step_5 rfl hl (by decide) rfl (fun ls hl => ?_)
  refine lv_iload_n hx hb dX3_step_6 rfl (lv_at hl 0 rfl) ?_
  refine lv_if_ne (tgt := 12) hx hb dX3_step_7 (by decide) (fun hc7 => ?_) (fun hc7 => ?_)
  · replace hw := hw.1 hc7
    refine lv_aload_n hx hb dX3_step_12 rfl (lv_at hl 1 rfl) ?_
    refine lv_iload_n hx hb dX3_step_13 rfl (lv_at hl 0 rfl) ?_
    refine pt_callv (pt_runV (n := 1) (As := [.int r_2]) (rest := []) F hP (pt_c3 _ hk0) (pt_l3 hk0) rfl (mtX3_choose l D cA ad hI _ k0 hk0 r_2 M_2 _ hw) kw_777 kw_774 kw_57 kw_776 kw_12 ⟨by decide, by decide, by decide +kernel⟩ ⟨rfl, rfl, Nat.le_of_ble_eq_true rfl, Nat.le_of_ble_eq_true rfl⟩ rfl hl.1 rfl (Nat.le_of_ble_eq_true rfl) dX3_step_14 ⟨Nat.zero_le _, Nat.zero_le _⟩) hS (fun _ h => h) (fun M_14 H locs hw hP hS _ _ => ?_)
    refine lv_iconst (v := 0) hx hb dX3_step_17 (by decide) ?_
    refine lv_istore_n (lv' := [(3, .int 0), (2, .int r_2), (0, .ref (ad k0)), (1, .int p1)]) hx hb dX3_step_18 rfl hl (by decide) rfl (fun ls hl => ?_)
    refine lv_iconst (v := 0) hx hb dX3_step_19 (by decide) ?_
    refine lv_istore (lv' := [(4, .int 0), (3, .int 0), (2, .int r_2), (0, .ref (ad k0)), (1, .int p1)]) hx hb dX3_step_20 hl (by decide) rfl (fun ls hl => ?_)
    obtain ⟨n_, hw⟩ := hw
    exact L22 n_ 0 0 M_14 _ _ _ hw hP hS (lv_sub hl [3, 1, 0] rfl)
  · replace hw := hw.2 hc7
    refine lv_iconst (v := 0) hx hb dX3_step_10 (by decide) ?_
    exact W.iret (v := 0) hx hb hr (fun t ht hW => ⟨⟨0, M_2, rfl, hw, by unfold pt_B; rw [ht]; exact hP⟩, hS.F ht⟩) hS.2.2 dX3_step_11
-- ===== X3_proceed
def wjX3_proceed_143 (k0 : Nat) (p1 : Int32) (Q : Int32 → pt_M → Prop) (R38 : Int32 → Int32 → Int32 → Int32 → pt_M → Prop) (x2 : Int32) (x3 : Int32) (x4 : Int32) (x5 : Int32) (M : pt_M) : Prop :=
  ∀ x5_143 : Int32, x5_143 = x5 + 1 → R38 x2 x3 x4 x5_143 M
def wjX3_proceed_120 (k0 : Nat) (p1 : Int32) (Q : Int32 → pt_M → Prop) (R38 : Int32 → Int32 → Int32 → Int32 → pt_M → Prop) (x3 : Int32) (x4 : Int32) (x5 : Int32) (M : pt_M) : Prop :=
  wjX3_proceed_143 k0 p1 Q R38 11 x3 x4 x5 M
def wjX3_proceed_70 (k0 : Nat) (p1 : Int32) (Q : Int32 → pt_M → Prop) (R38 : Int32 → Int32 → Int32 → Int32 → pt_M → Prop) (x2 : Int32) (x3 : Int32) (x5 : Int32) (x6 : Int32) (xs0 : Int32) (xs1 : Int32) (M : pt_M) : Prop :=
  ∀ x4_71 : Int32, x4_71 = (xs0 + xs1) → wpX3_isAtEnd k0 M (fun (r_74 : Int32) (M_74 : pt_M) => (r_74 = 0 → (¬ x4_71 = 12 → (0 < x6 → wjX3_proceed_120 k0 p1 Q R38 x3 x4_71 x5 M_74) ∧ (¬ 0 < x6 → (x2 = 11 → ((M_74 k0 8) ≤ 0 → Q x3 M_74) ∧ (¬ (M_74 k0 8) ≤ 0 → wpX3_nextEvent k0 M_74 (fun (r_134 : Int32) (M_134 : pt_M) => wjX3_proceed_143 k0 p1 Q R38 r_134 x3 x4_71 x5 M_134))) ∧ (¬ x2 = 11 → wjX3_proceed_120 k0 p1 Q R38 x3 x4_71 x5 M_74))) ∧ (x4_71 = 12 → wpX3_loseQueue k0 M_74 (fun (M_94 : pt_M) => ∀ M_104 : pt_M, M_104 = pt_st M_94 k0 6 ((M_94 k0 6) + 1) → Q x3 M_104))) ∧ (¬ r_74 = 0 → wpX3_loseQueue k0 M_74 (fun (M_81 : pt_M) => Q x3 M_81)))
def lbX3_proceed_38 (k0 : Nat) (p1 : Int32) (Q : Int32 → pt_M → Prop)  (R38 : Int32 → Int32 → Int32 → Int32 → pt_M → Prop) (x2 : Int32) (x3 : Int32) (x4 : Int32) (x5 : Int32) (M : pt_M) : Prop :=
  (1000 ≤ x5 → Q x3 M) ∧ (¬ 1000 ≤ x5 → wpX3_step k0 x2 M (fun (r_48 : Int32) (M_48 : pt_M) => ∀ x3_57 : Int32, x3_57 = (x3 + r_48) → (r_48 ≤ 0 → wjX3_proceed_70 k0 p1 Q R38 x2 x3_57 x5 r_48 x4 0 M_48) ∧ (¬ r_48 ≤ 0 → wjX3_proceed_70 k0 p1 Q R38 x2 x3_57 x5 r_48 x4 1 M_48)))
def lpX3_proceed_38 (k0 : Nat) (p1 : Int32) (Q : Int32 → pt_M → Prop)  : Nat → Int32 → Int32 → Int32 → Int32 → pt_M → Prop
  | 0 => fun _ _ _ _ _ => False
  | n + 1 => fun x2 x3 x4 x5 M => lbX3_proceed_38 k0 p1 Q (lpX3_proceed_38 k0 p1 Q n) x2 x3 x4 x5 M
def wjX3_proceed_28 (k0 : Nat) (p1 : Int32) (Q : Int32 → pt_M → Prop)   (M : pt_M) : Prop :=
  ∃ n : Nat, lpX3_proceed_38 k0 p1 Q n p1 0 0 0 M
def wpX3_proceed (k0 : Nat) (p1 : Int32) (M : pt_M) (Q : Int32 → pt_M → Prop) : Prop :=
  ∀ M_2 : pt_M, M_2 = pt_st M k0 3 0 → wpX3_isAtEnd k0 M_2 (fun (r_6 : Int32) (M_6 : pt_M) => (r_6 = 0 → (¬ p1 = 10 → wjX3_proceed_28 k0 p1 Q M_6) ∧ (p1 = 10 → wpX3_growOlder k0 M_6 (fun (M_25 : pt_M) => wjX3_proceed_28 k0 p1 Q M_25))) ∧ (¬ r_6 = 0 → wpX3_loseQueue k0 M_6 (fun (M_13 : pt_M) => Q 0 M_13)))
set_option maxHeartbeats 4000000 in
set_option maxRecDepth 100000 in
theorem mtX3_proceed (l : Launch) (D : va_G) (cA : Nat → ClassId) (ad : Nat → Nat) (hI : pt_I ad) (sz : Nat) (k0 : Nat) (hk0 : pt_kd k0 = 3) (p1 : Int32) (M : pt_M) (Q : Int32 → pt_M → Prop) (hw : wpX3_proceed k0 p1 M Q) : Met l yX3_proceed (Cond.code yX3_proceed cX3_proceed 7 (some .int) :: lw_all) ({ frames := 5, cells := 0, slots := 0, locals := 115 } : Room) (va_Pc [.ref (ad k0), .int p1] (pt_P D cA ad sz M)) (va_Qi Q (pt_B D cA ad) (pt_fr ad sz)) 0 0 (pt_fr ad sz) := by
  refine Met.ofW (cc := cX3_proceed) (maxL := 7) (ret := (some .int)) (by decide) rfl ?_
  intro p e s m args below meth c s₁ B hml hv
  obtain ⟨rfl, hsz, hP, hK⟩ := hv
  have hx := B.exec
  have hb := B.bytes
  have hr := B.returns
  have hts0 := atoms_spec (ws := (Cond.code yX3_proceed cX3_proceed 7 (some .int) :: lw_all)) B.pre
  have hown : s.vm.findClass RX3 = some m.cls := findClass_of_methodNamed B.named
  have hlocks := B.notSynchronized
  subst hsz
  have F : pt_F p m c cX3_proceed 7 s _ RX3 D cA := ⟨⟨hx, hb, hml, hown, fun w h => hts0 w (List.mem_cons_of_mem _ h)⟩, hK⟩
  have hD : ∀ M, va_D (pt_fr ad s.heap.size) (pt_W cA ad M) := pt_D hI (fun k h => Or.inl ⟨k, h, rfl⟩)
  have hS : va_S (pt_fr ad s.heap.size) s.heap s.heap [] := va_S.rf
  have hl := lv_entry ([.ref (ad k0), .int p1]) (n := 7) (Nat.le_of_ble_eq_true rfl)
  rw [lg_entry_eq]
  generalize (lg_sl ([.ref (ad k0), .int p1]) ++ List.replicate (7 - (lg_sl ([.ref (ad k0), .int p1])).length) Slot.unset).toArray = ls at hl ⊢
  have hl : lv_has ls 7 [(0, .ref (ad k0)), (1, .int p1)] := hl
  have L38 : ∀ (n38 : Nat) (x2 : Int32) (x3 : Int32) (x4 : Int32) (x5 : Int32) (M : pt_M) (H : Heap) (locs : List Loc) (ls : Array Slot), lpX3_proceed_38 k0 p1 Q n38 x2 x3 x4 x5 M → va_P D pt_cl (pt_W cA ad M) H → va_S (pt_fr ad s.heap.size) s.heap H locs → lv_has ls 7 [(0, .ref (ad k0)), (2, .int x2), (3, .int x3), (4, .int x4), (5, .int x5)] → W p l e (headSpec (Cond.code yX3_proceed cX3_proceed 7 (some .int) :: lw_all) ({ frames := 5, cells := 0, slots := 0, locals := 115 } : Room)).room s m ([.ref (ad k0), .int p1] : List Value).toArray below meth c H locs 0 0 (MQ below (va_Qi Q (pt_B D cA ad) (pt_fr ad s.heap.size)) ([.ref (ad k0), .int p1] : List Value).toArray s 0 0 (pt_fr ad s.heap.size)) (F0 m 38 ls []) := by
    intro n38
    induction n38 with
    | zero => intro x2 x3 x4 x5 M H locs ls hw; exact hw.elim
    | succ n38 ih38 =>
      have J143 : ∀ (x2 : Int32) (x3 : Int32) (x4 : Int32) (x5 : Int32) (M : pt_M) (H : Heap) (locs : List Loc) (ls : Array Slot), wjX3_proceed_143 k0 p1 Q (lpX3_proceed_38 k0 p1 Q n38) x2 x3 x4 x5 M → va_P D pt_cl (pt_W cA ad M) H → va_S (pt_fr ad s.heap.size) s.heap H locs → lv_has ls 7 [(0, .ref (ad k0)), (2, .int x2), (3, .int x3), (4, .int x4), (5, .int x5)] → W p l e (headSpec (Cond.code yX3_proceed cX3_proceed 7 (some .int) :: lw_all) ({ frames := 5, cells := 0, slots := 0, locals := 115 } : Room)).room s m ([.ref (ad k0), .int p1] : List Value).toArray below meth c H locs 0 0 (MQ below (va_Qi Q (pt_B D cA ad) (pt_fr ad s.heap.size)) ([.ref (ad k0), .int p1] : List Value).toArray s 0 0 (pt_fr ad s.heap.size)) (F0 m 143 ls []) := by
        intro x2 x3 x4 x5 M H locs ls hw hP hS hl
        unfold wjX3_proceed_143 at hw
        obtain ⟨x5_143, ex5_143⟩ : ∃ y : Int32, y = x5 + 1 := ⟨_, rfl⟩
        replace hw := hw x5_143 ex5_143
        refine lv_iinc (v := x5_143) (lv' := [(5, .int x5_143), (0, .ref (ad k0)), (2, .int x2), (3, .int x3), (4, .int x4)]) hx hb dX3_proceed_143 hl (k := 4) rfl (by rw [ex5_143]; rfl) (by decide) rfl (fun ls hl => ?_)
        refine lv_goto (tgt := 38) hx hb dX3_proceed_146 (by decide) ?_
        exact ih38 x2 x3 x4 x5_143 M _ _ _ hw hP hS (lv_sub hl [1, 2, 3, 4, 0] rfl)
      have J120 : ∀ (x3 : Int32) (x4 : Int32) (x5 : Int32) (M : pt_M) (H : Heap) (locs : List Loc) (ls : Array Slot), wjX3_proceed_120 k0 p1 Q (lpX3_proceed_38 k0 p1 Q n38) x3 x4 x5 M → va_P D pt_cl (pt_W cA ad M) H → va_S (pt_fr ad s.heap.size) s.heap H locs → lv_has ls 7 [(0, .ref (ad k0)), (3, .int x3), (4, .int x4), (5, .int x5)] → W p l e (headSpec (Cond.code yX3_proceed cX3_proceed 7 (some .int) :: lw_all) ({ frames := 5, cells := 0, slots := 0, locals := 115 } : Room)).room s m ([.ref (ad k0), .int p1] : List Value).toArray below meth c H locs 0 0 (MQ below (va_Qi Q (pt_B D cA ad) (pt_fr ad s.heap.size)) ([.ref (ad k0), .int p1] : List Value).toArray s 0 0 (pt_fr ad s.heap.size)) (F0 m 120 ls []) := by
        intro x3 x4 x5 M H locs ls hw hP hS hl
        unfold wjX3_proceed_120 at hw
        refine lv_bipush (v := 11) hx hb dX3_proceed_120 (by decide) ?_
        refine lv_istore_n (lv' := [(2, .int 11), (0, .ref (ad k0)), (3, .int x3), (4, .int x4), (5, .int x5)]) hx hb dX3_proceed_122 rfl hl (by decide) rfl (fun ls hl => ?_)
        refine lv_goto (tgt := 143) hx hb dX3_proceed_123 (by decide) ?_
        exact J143 11 x3 x4 x5 M _ _ _ hw hP hS (lv_sub hl [1, 0, 2, 3, 4] rfl)
      have J70 : ∀ (x2 : Int32) (x3 : Int32) (x5 : Int32) (x6 : Int32) (xs0 : Int32) (xs1 : Int32) (M : pt_M) (H : Heap) (locs : List Loc) (ls : Array Slot), wjX3_proceed_70 k0 p1 Q (lpX3_proceed_38 k0 p1 Q n38) x2 x3 x5 x6 xs0 xs1 M → va_P D pt_cl (pt_W cA ad M) H → va_S (pt_fr ad s.heap.size) s.heap H locs → lv_has ls 7 [(0, .ref (ad k0)), (2, .int x2), (3, .int x3), (5, .int x5), (6, .int x6)] → W p l e (headSpec (Cond.code yX3_proceed cX3_proceed 7 (some .int) :: lw_all) ({ frames := 5, cells := 0, slots := 0, locals := 115 } : Room)).room s m ([.ref (ad k0), .int p1] : List Value).toArray below meth c H locs 0 0 (MQ below (va_Qi Q (pt_B D cA ad) (pt_fr ad s.heap.size)) ([.ref (ad k0), .int p1] : List Value).toArray s 0 0 (pt_fr ad s.heap.size)) (F0 m 70 ls [.int xs1, .int xs0]) := by
        intro x2 x3 x5 x6 xs0 xs1 M H locs ls hw hP hS hl
        unfold wjX3_proceed_70 at hw
        refine lv_iadd hx hb dX3_proceed_70 ?_
        refine lv_topi (fun x4_71 ex4_71 => ?_)
        replace hw := hw x4_71 ex4_71
        refine lv_istore (lv' := [(4, .int x4_71), (0, .ref (ad k0)), (2, .int x2), (3, .int x3), (5, .int x5), (6, .int x6)]) hx hb dX3_proceed_71 hl (by decide) rfl (fun ls hl => ?_)
        refine lv_aload_n hx hb dX3_proceed_73 rfl (lv_at hl 1 rfl) ?_
        refine pt_calli (pt_runV (n := 0) (As := []) (rest := []) F hP (pt_c3 _ hk0) (pt_l3 hk0) rfl (mtX3_isAtEnd l D cA ad hI _ k0 hk0 M _ hw) kw_409 kw_748 kw_57 kw_407 kw_408 ⟨by decide, by decide, by decide +kernel⟩ ⟨rfl, rfl, Nat.le_of_ble_eq_true rfl, Nat.le_of_ble_eq_true rfl⟩ rfl hl.1 rfl (Nat.le_of_ble_eq_true rfl) dX3_proceed_74 ⟨Nat.zero_le _, Nat.zero_le _⟩) hS (fun _ h => h) (fun r_74 M_74 H locs hw hP hS _ _ => ?_)
        refine lv_if_eq (tgt := 86) hx hb dX3_proceed_77 (by decide) (fun hc77 => ?_) (fun hc77 => ?_)
        · replace hw := hw.1 hc77
          refine lv_iload hx hb dX3_proceed_86 (lv_at hl 0 rfl) ?_
          refine lv_bipush (v := 12) hx hb dX3_proceed_88 (by decide) ?_
          refine lv_icmp_ne (tgt := 109) hx hb dX3_proceed_90 (by decide) (fun hc90 => ?_) (fun hc90 => ?_)
          · replace hw := hw.1 hc90
            refine lv_iload hx hb dX3_proceed_109 (lv_at hl 5 rfl) ?_
            refine lv_if_gt (tgt := 120) hx hb dX3_proceed_111 (by decide) (fun hc111 => ?_) (fun hc111 => ?_)
            · replace hw := hw.1 hc111
              exact J120 x3 x4_71 x5 M_74 _ _ _ hw hP hS (lv_sub hl [1, 3, 0, 4] rfl)
            · replace hw := hw.2 hc111
              refine lv_iload_n hx hb dX3_proceed_114 rfl (lv_at hl 2 rfl) ?_
              refine lv_bipush (v := 11) hx hb dX3_proceed_115 (by decide) ?_
              refine lv_icmp_eq (tgt := 126) hx hb dX3_proceed_117 (by decide) (fun hc117 => ?_) (fun hc117 => ?_)
              · replace hw := hw.1 hc117
                refine lv_aload_n hx hb dX3_proceed_126 rfl (lv_at hl 1 rfl) ?_
                refine pt_get F hP (pt_c3 _ hk0) (pt_l3 hk0) inX3 rfl 8 (by decide) kw_304 rfl rfl dX3_proceed_127 ?_
                refine lv_if_le (tgt := 141) hx hb dX3_proceed_130 (by decide) (fun hc130 => ?_) (fun hc130 => ?_)
                · replace hw := hw.1 hc130
                  refine lv_iload_n hx hb dX3_proceed_141 rfl (lv_at hl 3 rfl) ?_
                  exact W.iret (v := x3) hx hb hr (fun t ht hW => ⟨⟨x3, M_74, rfl, hw, by unfold pt_B; rw [ht]; exact hP⟩, hS.F ht⟩) hS.2.2 dX3_proceed_142
                · replace hw := hw.2 hc130
                  refine lv_aload_n hx hb dX3_proceed_133 rfl (lv_at hl 1 rfl) ?_
                  refine pt_calli (pt_runV (n := 0) (As := []) (rest := []) F hP (pt_c3 _ hk0) (pt_l3 hk0) rfl (mtX3_nextEvent l D cA ad hI _ k0 hk0 M_74 _ hw) kw_820 kw_817 kw_57 kw_819 kw_20 ⟨by decide, by decide, by decide +kernel⟩ ⟨rfl, rfl, Nat.le_of_ble_eq_true rfl, Nat.le_of_ble_eq_true rfl⟩ rfl hl.1 rfl (Nat.le_of_ble_eq_true rfl) dX3_proceed_134 ⟨Nat.zero_le _, Nat.zero_le _⟩) hS (fun _ h => h) (fun r_134 M_134 H locs hw hP hS _ _ => ?_)
                  refine lv_istore_n (lv' := [(2, .int r_134), (4, .int x4_71), (0, .ref (ad k0)), (3, .int x3), (5, .int x5), (6, .int x6)]) hx hb dX3_proceed_137 rfl hl (by decide) rfl (fun ls hl => ?_)
                  refine lv_goto (tgt := 143) hx hb dX3_proceed_138 (by decide) ?_
                  exact J143 r_134 x3 x4_71 x5 M_134 _ _ _ hw hP hS (lv_sub hl [2, 0, 3, 1, 4] rfl)
              · replace hw := hw.2 hc117
                exact J120 x3 x4_71 x5 M_74 _ _ _ hw hP hS (lv_sub hl [1, 3, 0, 4] rfl)
          · replace hw := hw.2 hc90
            refine lv_aload_n hx hb dX3_proceed_93 rfl (lv_at hl 1 rfl) ?_
            refine pt_callv (pt_runV (n := 0) (As := []) (rest := []) F hP (pt_c3 _ hk0) (pt_l3 hk0) rfl (mtX3_loseQueue l D cA ad hI _ k0 hk0 M_74 _ hw) kw_752 kw_749 kw_57 kw_751 kw_8 ⟨by decide, by decide, by decide +kernel⟩ ⟨rfl, rfl, Nat.le_of_ble_eq_true rfl, Nat.le_of_ble_eq_true rfl⟩ rfl hl.1 rfl (Nat.le_of_ble_eq_true rfl) dX3_proceed_94 ⟨Nat.zero_le _, Nat.zero_le _⟩) hS (fun _ h => h) (fun M_94 H locs hw hP hS _ _ => ?_)
            refine lv_aload_n hx hb dX3_proceed_97 rfl (lv_at hl 1 rfl) ?_
            refine lv_dup hx hb dX3_proceed_98 rfl ?_
            refine pt_get F hP (pt_c3 _ hk0) (pt_l3 hk0) inX3 rfl 6 (by decide) kw_301 rfl rfl dX3_proceed_99 ?_
            refine lv_iconst (v := 1) hx hb dX3_proceed_102 (by decide) ?_
            refine lv_iadd hx hb dX3_proceed_103 ?_
            refine pt_put F hP hD hS (pt_c3 _ hk0) (pt_l3 hk0) inX3 tyX3 tyX3_ok nmX3 rfl 6 (by decide) kw_301 rfl rfl rfl rfl (Nat.le_of_ble_eq_true rfl) (pt_c3 _ hk0) dX3_proceed_104 (fun M_104 H locs eM_104 hP hS => ?_)
            replace hw := hw M_104 eM_104
            refine lv_iload_n hx hb dX3_proceed_107 rfl (lv_at hl 3 rfl) ?_
            exact W.iret (v := x3) hx hb hr (fun t ht hW => ⟨⟨x3, M_104, rfl, hw, by unfold pt_B; rw [ht]; exact hP⟩, hS.F ht⟩) hS.2.2 dX3_proceed_108
        · replace hw := hw.2 hc77
          refine lv_aload_n hx hb dX3_proceed_80 rfl (lv_at hl 1 rfl) ?_
          refine pt_callv (pt_runV (n := 0) (As := []) (rest := []) F hP (pt_c3 _ hk0) (pt_l3 hk0) rfl (mtX3_loseQueue l D cA ad hI _ k0 hk0 M_74 _ hw) kw_752 kw_749 kw_57 kw_751 kw_8 ⟨by decide, by decide, by decide +kernel⟩ ⟨rfl, rfl, Nat.le_of_ble_eq_true rfl, Nat.le_of_ble_eq_true rfl⟩ rfl hl.1 rfl (Nat.le_of_ble_eq_true rfl) dX3_proceed_81 ⟨Nat.zero_le _, Nat.zero_le _⟩) hS (fun _ h => h) (fun M_81 H locs hw hP hS _ _ => ?_)
          refine lv_iload_n hx hb dX3_proceed_84 rfl (lv_at hl 3 rfl) ?_
          exact W.iret (v := x3) hx hb hr (fun t ht hW => ⟨⟨x3, M_81, rfl, hw, by unfold pt_B; rw [ht]; exact hP⟩, hS.F ht⟩) hS.2.2 dX3_proceed_85
      intro x2 x3 x4 x5 M H locs ls hw hP hS hl
      replace hw : lbX3_proceed_38 k0 p1 Q (lpX3_proceed_38 k0 p1 Q n38) x2 x3 x4 x5 M := hw
      unfold lbX3_proceed_38 at hw
      refine lv_iload hx hb dX3_proceed_38 (lv_at hl 4 rfl) ?_
      refine lv_sipush (v := 1000) hx hb dX3_proceed_40 (by decide) ?_
      refine lv_icmp_ge (tgt := 149) hx hb dX3_proceed_43 (by decide) (fun hc43 => ?_) (fun hc43 => ?_)
      · replace hw := hw.1 hc43
        refine lv_iload_n hx hb dX3_proceed_149 rfl (lv_at hl 2 rfl) ?_
        exact W.iret (v := x3) hx hb hr (fun t ht hW => ⟨⟨x3, M, rfl, hw, by unfold pt_B; rw [ht]; exact hP⟩, hS.F ht⟩) hS.2.2 dX3_proceed_150
      · replace hw := hw.2 hc43
        refine lv_aload_n hx hb dX3_proceed_46 rfl (lv_at hl 0 rfl) ?_
        refine lv_iload_n hx hb dX3_proceed_47 rfl (lv_at hl 1 rfl) ?_
        refine pt_calli (pt_runV (n := 1) (As := [.int x2]) (rest := []) F hP (pt_c3 _ hk0) (pt_l3 hk0) rfl (mtX3_step l D cA ad hI _ k0 hk0 x2 M _ hw) kw_760 kw_757 kw_57 kw_759 kw_10 ⟨by decide, by decide, by decide +kernel⟩ ⟨rfl, rfl, Nat.le_of_ble_eq_true rfl, Nat.le_of_ble_eq_true rfl⟩ rfl hl.1 rfl (Nat.le_of_ble_eq_true rfl) dX3_proceed_48 ⟨Nat.zero_le _, Nat.zero_le _⟩) hS (fun _ h => h) (fun r_48 M_48 H locs hw hP hS _ _ => ?_)
        refine lv_istore (lv' := [(6, .int r_48), (0, .ref (ad k0)), (2, .int x2), (3, .int x3), (4, .int x4), (5, .int x5)]) hx hb dX3_proceed_51 hl (by decide) rfl (fun ls hl => ?_)
        refine lv_iload_n hx hb dX3_proceed_53 rfl (lv_at hl 3 rfl) ?_
        refine lv_iload hx hb dX3_proceed_54 (lv_at hl 0 rfl) ?_
        refine lv_iadd hx hb dX3_proceed_56 ?_
        refine lv_topi (fun x3_57 ex3_57 => ?_)
        replace hw := hw x3_57 ex3_57
        refine lv_istore_n (lv' := [(3, .int x3_57), (6, .int r_48), (0, .ref (ad k0)), (2, .int x2), (4, .int x4), (5, .int x5)]) hx hb dX3_proceed_57 rfl hl (by decide) rfl (fun ls hl => ?_)
        refine lv_iload hx hb dX3_proceed_58 (lv_at hl 4 rfl) ?_
        refine lv_iload hx hb dX3_proceed_60 (lv_at hl 1 rfl) ?_
        refine lv_if_le (tgt := 69) hx hb dX3_proceed_62 (by decide) (fun hc62 => ?_) (fun hc62 => ?_)
        · replace hw := hw.1 hc62
          refine lv_iconst (v := 0) hx hb dX3_proceed_69 (by decide) ?_
          exact J70 x2 x3_57 x5 r_48 x4 0 M_48 _ _ _ hw hP hS (lv_sub hl [2, 3, 0, 5, 1] rfl)
        · replace hw := hw.2 hc62
          refine lv_iconst (v := 1) hx hb dX3_proceed_65 (by decide) ?_
          refine lv_goto (tgt := 70) hx hb dX3_proceed_66 (by decide) ?_
          exact J70 x2 x3_57 x5 r_48 x4 1 M_48 _ _ _ hw hP hS (lv_sub hl [2, 3, 0, 5, 1] rfl)
  have J28 : ∀ (M : pt_M) (H : Heap) (locs : List Loc) (ls : Array Slot), wjX3_proceed_28 k0 p1 Q M → va_P D pt_cl (pt_W cA ad M) H → va_S (pt_fr ad s.heap.size) s.heap H locs → lv_has ls 7 [(0, .ref (ad k0)), (1, .int p1)] → W p l e (headSpec (Cond.code yX3_proceed cX3_proceed 7 (some .int) :: lw_all) ({ frames := 5, cells := 0, slots := 0, locals := 115 } : Room)).room s m ([.ref (ad k0), .int p1] : List Value).toArray below meth c H locs 0 0 (MQ below (va_Qi Q (pt_B D cA ad) (pt_fr ad s.heap.size)) ([.ref (ad k0), .int p1] : List Value).toArray s 0 0 (pt_fr ad s.heap.size)) (F0 m 28 ls []) := by
    intro M H locs ls hw hP hS hl
    unfold wjX3_proceed_28 at hw
    refine lv_iload_n hx hb dX3_proceed_28 rfl (lv_at hl 1 rfl) ?_
    refine lv_istore_n (lv' := [(2, .int p1), (0, .ref (ad k0)), (1, .int p1)]) hx hb dX3_proceed_29 rfl hl (by decide) rfl (fun ls hl => ?_)
    refine lv_iconst (v := 0) hx hb dX3_proceed_30 (by decide) ?_
    refine lv_istore_n (lv' := [(3, .int 0), (2, .int p1), (0, .ref (ad k0)), (1, .int p1)]) hx hb dX3_proceed_31 rfl hl (by decide) rfl (fun ls hl => ?_)
    refine lv_iconst (v := 0) hx hb dX3_proceed_32 (by decide) ?_
    refine lv_istore (lv' := [(4, .int 0), (3, .int 0), (2, .int p1), (0, .ref (ad k0)), (1, .int p1)]) hx hb dX3_proceed_33 hl (by decide) rfl (fun ls hl => ?_)
    refine lv_iconst (v := 0) hx hb dX3_proceed_35 (by decide) ?_
    refine lv_istore (lv' := [(5, .int 0), (4, .int 0), (3, .int 0), (2, .int p1), (0, .ref (ad k0)), (1, .int p1)]) hx hb dX3_proceed_36 hl (by decide) rfl (fun ls hl => ?_)
    obtain ⟨n_, hw⟩ := hw
    exact L38 n_ p1 0 0 0 M _ _ _ hw hP hS (lv_sub hl [4, 3, 2, 1, 0] rfl)
  unfold wpX3_proceed at hw
  refine lv_aload_n hx hb dX3_proceed_0 rfl (lv_at hl 0 rfl) ?_
  refine lv_iconst (v := 0) hx hb dX3_proceed_1 (by decide) ?_
  refine pt_put F hP hD hS (pt_c3 _ hk0) (pt_l3 hk0) inX3 tyX3 tyX3_ok nmX3 rfl 3 (by decide) kw_296 rfl rfl rfl rfl (Nat.le_of_ble_eq_true rfl) (pt_c3 _ hk0) dX3_proceed_2 (fun M_2 H locs eM_2 hP hS => ?_)
  replace hw := hw M_2 eM_2
  refine lv_aload_n hx hb dX3_proceed_5 rfl (lv_at hl 0 rfl) ?_
  refine pt_calli (pt_runV (n := 0) (As := []) (rest := []) F hP (pt_c3 _ hk0) (pt_l3 hk0) rfl (mtX3_isAtEnd l D cA ad hI _ k0 hk0 M_2 _ hw) kw_409 kw_748 kw_57 kw_407 kw_408 ⟨by decide, by decide, by decide +kernel⟩ ⟨rfl, rfl, Nat.le_of_ble_eq_true rfl, Nat.le_of_ble_eq_true rfl⟩ rfl hl.1 rfl (Nat.le_of_ble_eq_true rfl) dX3_proceed_6 ⟨Nat.zero_le _, Nat.zero_le _⟩) hS (fun _ h => h) (fun r_6 M_6 H locs hw hP hS _ _ => ?_)
  refine lv_if_eq (tgt := 18) hx hb dX3_proceed_9 (by decide) (fun hc9 => ?_) (fun hc9 => ?_)
  · replace hw := hw.1 hc9
    refine lv_iload_n hx hb dX3_proceed_18 rfl (lv_at hl 1 rfl) ?_
    refine lv_bipush (v := 10) hx hb dX3_proceed_19 (by decide) ?_
    refine lv_icmp_ne (tgt := 28) hx hb dX3_proceed_21 (by decide) (fun hc21 => ?_) (fun hc21 => ?_)
    · replace hw := hw.1 hc21
      exact J28 M_6 _ _ _ hw hP hS (lv_sub hl [0, 1] rfl)
    · replace hw := hw.2 hc21
      refine lv_aload_n hx hb dX3_proceed_24 rfl (lv_at hl 0 rfl) ?_
      refine pt_callv (pt_runV (n := 0) (As := []) (rest := []) F hP (pt_c3 _ hk0) (pt_l3 hk0) rfl (mtX3_growOlder l D cA ad hI _ k0 hk0 M_6 _ hw) kw_756 kw_753 kw_57 kw_755 kw_9 ⟨by decide, by decide, by decide +kernel⟩ ⟨rfl, rfl, Nat.le_of_ble_eq_true rfl, Nat.le_of_ble_eq_true rfl⟩ rfl hl.1 rfl (Nat.le_of_ble_eq_true rfl) dX3_proceed_25 ⟨Nat.zero_le _, Nat.zero_le _⟩) hS (fun _ h => h) (fun M_25 H locs hw hP hS _ _ => ?_)
      exact J28 M_25 _ _ _ hw hP hS (lv_sub hl [0, 1] rfl)
  · replace hw := hw.2 hc9
    refine lv_aload_n hx hb dX3_proceed_12 rfl (lv_at hl 0 rfl) ?_
    refine pt_callv (pt_runV (n := 0) (As := []) (rest := []) F hP (pt_c3 _ hk0) (pt_l3 hk0) rfl (mtX3_loseQueue l D cA ad hI _ k0 hk0 M_6 _ hw) kw_752 kw_749 kw_57 kw_751 kw_8 ⟨by decide, by decide, by decide +kernel⟩ ⟨rfl, rfl, Nat.le_of_ble_eq_true rfl, Nat.le_of_ble_eq_true rfl⟩ rfl hl.1 rfl (Nat.le_of_ble_eq_true rfl) dX3_proceed_13 ⟨Nat.zero_le _, Nat.zero_le _⟩) hS (fun _ h => h) (fun M_13 H locs hw hP hS _ _ => ?_)
    refine lv_iconst (v := 0) hx hb dX3_proceed_16 (by decide) ?_
    exact W.iret (v := 0) hx hb hr (fun t ht hW => ⟨⟨0, M_13, rfl, hw, by unfold pt_B; rw [ht]; exact hP⟩, hS.F ht⟩) hS.2.2 dX3_proceed_17
end
