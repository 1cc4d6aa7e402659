section
-- begun with the kit's skeleton, PART A (given for pasting)
-- ===== PART A: goes FIRST, ahead of the names: the tables' words, and 'selects' of the private methods out of them =====
/-- a private method of a class that the tables say can be made, by its rows of tables_1 -/
def lw_okq (q : MethodName × Nat) : Prop := (q.1.cls ≠ "java/lang/invoke/MethodHandle" ∧ q.1.cls ≠ "java/lang/invoke/VarHandle") ∧ Cond.instantiable q.1.cls q.2 ∈ tables_1 ∧ Cond.privateMethod q.1 ∈ tables_1 ∧ Cond.instanceMethod q.1 ∈ tables_1
theorem lw_p0 : lw_okq (⟨"PuppetTheatre", "checkResting", "()V"⟩, 5) := ⟨⟨by decide +kernel, by decide +kernel⟩, List.mem_of_getElem? (i := 19) (by decide +kernel), List.mem_of_getElem? (i := 326) (by decide +kernel), List.mem_of_getElem? (i := 327) (by decide +kernel)⟩
theorem lw_p1 : lw_okq (⟨"java/lang/Throwable", "fillInStackTrace", "(I)Ljava/lang/Throwable;"⟩, 6) := ⟨⟨by decide +kernel, by decide +kernel⟩, List.mem_of_getElem? (i := 368) (by decide +kernel), List.mem_of_getElem? (i := 366) (by decide +kernel), List.mem_of_getElem? (i := 367) (by decide +kernel)⟩
theorem lw_p2 : lw_okq (⟨"PuppetTheatre$Play", "act", "(LPuppetTheatre$Action;)V"⟩, 11) := ⟨⟨by decide +kernel, by decide +kernel⟩, List.mem_of_getElem? (i := 191) (by decide +kernel), List.mem_of_getElem? (i := 419) (by decide +kernel), List.mem_of_getElem? (i := 420) (by decide +kernel)⟩
theorem lw_p3 : lw_okq (⟨"PuppetTheatre$Play", "raise", "(I)V"⟩, 11) := ⟨⟨by decide +kernel, by decide +kernel⟩, List.mem_of_getElem? (i := 191) (by decide +kernel), List.mem_of_getElem? (i := 433) (by decide +kernel), List.mem_of_getElem? (i := 434) (by decide +kernel)⟩
theorem lw_p4 : lw_okq (⟨"PuppetTheatre$Play", "loseQueue", "()V"⟩, 11) := ⟨⟨by decide +kernel, by decide +kernel⟩, List.mem_of_getElem? (i := 191) (by decide +kernel), List.mem_of_getElem? (i := 445) (by decide +kernel), List.mem_of_getElem? (i := 446) (by decide +kernel)⟩
theorem lw_p5 : lw_okq (⟨"PuppetTheatre$Play", "growOlder", "()V"⟩, 11) := ⟨⟨by decide +kernel, by decide +kernel⟩, List.mem_of_getElem? (i := 191) (by decide +kernel), List.mem_of_getElem? (i := 449) (by decide +kernel), List.mem_of_getElem? (i := 450) (by decide +kernel)⟩
theorem lw_p6 : lw_okq (⟨"PuppetTheatre$Play", "step", "(I)I"⟩, 11) := ⟨⟨by decide +kernel, by decide +kernel⟩, List.mem_of_getElem? (i := 191) (by decide +kernel), List.mem_of_getElem? (i := 453) (by decide +kernel), List.mem_of_getElem? (i := 454) (by decide +kernel)⟩
theorem lw_p7 : lw_okq (⟨"PuppetTheatre$Play", "isOpen", "(LPuppetTheatre$Transition;I)Z"⟩, 11) := ⟨⟨by decide +kernel, by decide +kernel⟩, List.mem_of_getElem? (i := 191) (by decide +kernel), List.mem_of_getElem? (i := 465) (by decide +kernel), List.mem_of_getElem? (i := 466) (by decide +kernel)⟩
theorem lw_p8 : lw_okq (⟨"PuppetTheatre$Play", "choose", "(I)V"⟩, 11) := ⟨⟨by decide +kernel, by decide +kernel⟩, List.mem_of_getElem? (i := 191) (by decide +kernel), List.mem_of_getElem? (i := 473) (by decide +kernel), List.mem_of_getElem? (i := 474) (by decide +kernel)⟩
theorem lw_p9 : lw_okq (⟨"PuppetTheatre$Play", "nearestOpen", "(II)I"⟩, 11) := ⟨⟨by decide +kernel, by decide +kernel⟩, List.mem_of_getElem? (i := 191) (by decide +kernel), List.mem_of_getElem? (i := 477) (by decide +kernel), List.mem_of_getElem? (i := 478) (by decide +kernel)⟩
theorem lw_p10 : lw_okq (⟨"PuppetTheatre$Play", "takeIfFree", "(I)V"⟩, 11) := ⟨⟨by decide +kernel, by decide +kernel⟩, List.mem_of_getElem? (i := 191) (by decide +kernel), List.mem_of_getElem? (i := 490) (by decide +kernel), List.mem_of_getElem? (i := 491) (by decide +kernel)⟩
theorem lw_p11 : lw_okq (⟨"PuppetTheatre$Play", "leftBy", "(LPuppetTheatre$Transition;)I"⟩, 11) := ⟨⟨by decide +kernel, by decide +kernel⟩, List.mem_of_getElem? (i := 191) (by decide +kernel), List.mem_of_getElem? (i := 494) (by decide +kernel), List.mem_of_getElem? (i := 495) (by decide +kernel)⟩
theorem lw_p12 : lw_okq (⟨"PuppetTheatre$Play", "makeRecords", "(I)V"⟩, 11) := ⟨⟨by decide +kernel, by decide +kernel⟩, List.mem_of_getElem? (i := 191) (by decide +kernel), List.mem_of_getElem? (i := 498) (by decide +kernel), List.mem_of_getElem? (i := 499) (by decide +kernel)⟩
theorem lw_p13 : lw_okq (⟨"PuppetTheatre$Play", "leave", "(I)V"⟩, 11) := ⟨⟨by decide +kernel, by decide +kernel⟩, List.mem_of_getElem? (i := 191) (by decide +kernel), List.mem_of_getElem? (i := 506) (by decide +kernel), List.mem_of_getElem? (i := 507) (by decide +kernel)⟩
theorem lw_p14 : lw_okq (⟨"PuppetTheatre$Play", "targetsOf", "(LPuppetTheatre$Transition;)I"⟩, 11) := ⟨⟨by decide +kernel, by decide +kernel⟩, List.mem_of_getElem? (i := 191) (by decide +kernel), List.mem_of_getElem? (i := 510) (by decide +kernel), List.mem_of_getElem? (i := 511) (by decide +kernel)⟩
theorem lw_p15 : lw_okq (⟨"PuppetTheatre$Chart", "partsAside", "(II)I"⟩, 7) := ⟨⟨by decide +kernel, by decide +kernel⟩, List.mem_of_getElem? (i := 27) (by decide +kernel), List.mem_of_getElem? (i := 518) (by decide +kernel), List.mem_of_getElem? (i := 519) (by decide +kernel)⟩
def lw_privs_1 : List (MethodName × Nat) := [(⟨"PuppetTheatre", "checkResting", "()V"⟩, 5), (⟨"java/lang/Throwable", "fillInStackTrace", "(I)Ljava/lang/Throwable;"⟩, 6), (⟨"PuppetTheatre$Play", "act", "(LPuppetTheatre$Action;)V"⟩, 11), (⟨"PuppetTheatre$Play", "raise", "(I)V"⟩, 11), (⟨"PuppetTheatre$Play", "loseQueue", "()V"⟩, 11), (⟨"PuppetTheatre$Play", "growOlder", "()V"⟩, 11), (⟨"PuppetTheatre$Play", "step", "(I)I"⟩, 11), (⟨"PuppetTheatre$Play", "isOpen", "(LPuppetTheatre$Transition;I)Z"⟩, 11), (⟨"PuppetTheatre$Play", "choose", "(I)V"⟩, 11), (⟨"PuppetTheatre$Play", "nearestOpen", "(II)I"⟩, 11), (⟨"PuppetTheatre$Play", "takeIfFree", "(I)V"⟩, 11), (⟨"PuppetTheatre$Play", "leftBy", "(LPuppetTheatre$Transition;)I"⟩, 11), (⟨"PuppetTheatre$Play", "makeRecords", "(I)V"⟩, 11), (⟨"PuppetTheatre$Play", "leave", "(I)V"⟩, 11), (⟨"PuppetTheatre$Play", "targetsOf", "(LPuppetTheatre$Transition;)I"⟩, 11), (⟨"PuppetTheatre$Chart", "partsAside", "(II)I"⟩, 7)]
theorem lw_r1 : ∀ q ∈ lw_privs_1, lw_okq q := List.forall_mem_cons.mpr ⟨lw_p0, List.forall_mem_cons.mpr ⟨lw_p1, List.forall_mem_cons.mpr ⟨lw_p2, List.forall_mem_cons.mpr ⟨lw_p3, List.forall_mem_cons.mpr ⟨lw_p4, List.forall_mem_cons.mpr ⟨lw_p5, List.forall_mem_cons.mpr ⟨lw_p6, List.forall_mem_cons.mpr ⟨lw_p7, List.forall_mem_cons.mpr ⟨lw_p8, List.forall_mem_cons.mpr ⟨lw_p9, List.forall_mem_cons.mpr ⟨lw_p10, List.forall_mem_cons.mpr ⟨lw_p11, List.forall_mem_cons.mpr ⟨lw_p12, List.forall_mem_cons.mpr ⟨lw_p13, List.forall_mem_cons.mpr ⟨lw_p14, List.forall_mem_cons.mpr ⟨lw_p15, fun _ h => absurd h List.not_mem_nil⟩⟩⟩⟩⟩⟩⟩⟩⟩⟩⟩⟩⟩⟩⟩⟩
theorem lw_p16 : lw_okq (⟨"PuppetTheatre$Play", "nextEvent", "()I"⟩, 11) := ⟨⟨by decide +kernel, by decide +kernel⟩, List.mem_of_getElem? (i := 191) (by decide +kernel), List.mem_of_getElem? (i := 524) (by decide +kernel), List.mem_of_getElem? (i := 525) (by decide +kernel)⟩
theorem lw_p17 : lw_okq (⟨"PuppetTheatre", "checkRunning", "()V"⟩, 5) := ⟨⟨by decide +kernel, by decide +kernel⟩, List.mem_of_getElem? (i := 19) (by decide +kernel), List.mem_of_getElem? (i := 532) (by decide +kernel), List.mem_of_getElem? (i := 533) (by decide +kernel)⟩
theorem lw_p18 : lw_okq (⟨"PuppetTheatre", "checkState", "(I)V"⟩, 5) := ⟨⟨by decide +kernel, by decide +kernel⟩, List.mem_of_getElem? (i := 19) (by decide +kernel), List.mem_of_getElem? (i := 578) (by decide +kernel), List.mem_of_getElem? (i := 579) (by decide +kernel)⟩
theorem lw_p19 : lw_okq (⟨"PuppetTheatre", "checkTransition", "(I)V"⟩, 5) := ⟨⟨by decide +kernel, by decide +kernel⟩, List.mem_of_getElem? (i := 19) (by decide +kernel), List.mem_of_getElem? (i := 607) (by decide +kernel), List.mem_of_getElem? (i := 608) (by decide +kernel)⟩
theorem lw_p20 : lw_okq (⟨"PuppetTheatre$Look", "isReached", "(II)Z"⟩, 9) := ⟨⟨by decide +kernel, by decide +kernel⟩, List.mem_of_getElem? (i := 266) (by decide +kernel), List.mem_of_getElem? (i := 653) (by decide +kernel), List.mem_of_getElem? (i := 654) (by decide +kernel)⟩
theorem lw_p21 : lw_okq (⟨"PuppetTheatre$Look", "writeRow", "(II)V"⟩, 9) := ⟨⟨by decide +kernel, by decide +kernel⟩, List.mem_of_getElem? (i := 266) (by decide +kernel), List.mem_of_getElem? (i := 657) (by decide +kernel), List.mem_of_getElem? (i := 658) (by decide +kernel)⟩
theorem lw_p22 : lw_okq (⟨"PuppetTheatre$Look", "keepIfNew", "(II)V"⟩, 9) := ⟨⟨by decide +kernel, by decide +kernel⟩, List.mem_of_getElem? (i := 266) (by decide +kernel), List.mem_of_getElem? (i := 661) (by decide +kernel), List.mem_of_getElem? (i := 662) (by decide +kernel)⟩
theorem lw_p23 : lw_okq (⟨"PuppetTheatre", "digestOfStates", "(J)J"⟩, 5) := ⟨⟨by decide +kernel, by decide +kernel⟩, List.mem_of_getElem? (i := 19) (by decide +kernel), List.mem_of_getElem? (i := 701) (by decide +kernel), List.mem_of_getElem? (i := 702) (by decide +kernel)⟩
theorem lw_p24 : lw_okq (⟨"PuppetTheatre$Chart", "scopeOf", "(II)I"⟩, 7) := ⟨⟨by decide +kernel, by decide +kernel⟩, List.mem_of_getElem? (i := 27) (by decide +kernel), List.mem_of_getElem? (i := 788) (by decide +kernel), List.mem_of_getElem? (i := 789) (by decide +kernel)⟩
def lw_privs_2 : List (MethodName × Nat) := [(⟨"PuppetTheatre$Play", "nextEvent", "()I"⟩, 11), (⟨"PuppetTheatre", "checkRunning", "()V"⟩, 5), (⟨"PuppetTheatre", "checkState", "(I)V"⟩, 5), (⟨"PuppetTheatre", "checkTransition", "(I)V"⟩, 5), (⟨"PuppetTheatre$Look", "isReached", "(II)Z"⟩, 9), (⟨"PuppetTheatre$Look", "writeRow", "(II)V"⟩, 9), (⟨"PuppetTheatre$Look", "keepIfNew", "(II)V"⟩, 9), (⟨"PuppetTheatre", "digestOfStates", "(J)J"⟩, 5), (⟨"PuppetTheatre$Chart", "scopeOf", "(II)I"⟩, 7)]
theorem lw_r2 : ∀ q ∈ lw_privs_2, lw_okq q := List.forall_mem_cons.mpr ⟨lw_p16, List.forall_mem_cons.mpr ⟨lw_p17, List.forall_mem_cons.mpr ⟨lw_p18, List.forall_mem_cons.mpr ⟨lw_p19, List.forall_mem_cons.mpr ⟨lw_p20, List.forall_mem_cons.mpr ⟨lw_p21, List.forall_mem_cons.mpr ⟨lw_p22, List.forall_mem_cons.mpr ⟨lw_p23, List.forall_mem_cons.mpr ⟨lw_p24, fun _ h => absurd h List.not_mem_nil⟩⟩⟩⟩⟩⟩⟩⟩⟩
def lw_privs : List (MethodName × Nat) := lw_privs_1 ++ (lw_privs_2)
def lw_tbl : List Cond := k2_sels lw_privs ++ tables_1
theorem lw_privs_ok : ∀ q ∈ lw_privs, lw_okq q := by
  show ∀ q ∈ lw_privs_1 ++ (lw_privs_2), lw_okq q
  exact List.forall_mem_append.mpr ⟨lw_r1, lw_r2⟩
/-- the streams that the claim lets the run draw from -/
abbrev lw_cs : List Choice := [Jvm.Choice.named "NaN.bits"]
theorem lw_bits : nanBits ∈ lw_cs := by first | decide | exact List.mem_cons_self | simp [lw_cs, nanBits]
end
section
-- names, field tables and decode rows: chosen by wip/gen/setup.py out of what TURN printed of the class (given for pasting)
def RX0 : String := "PuppetTheatre$Action"
def TX0 : u_T := fun k => match k with
  | 0 => ("PuppetTheatre$Action", "code", "I", false)
  | 1 => ("PuppetTheatre$Action", "what", "I", false)
  | _ => ("PuppetTheatre$Action", "n", "I", false)
def tyX0 : Nat → FieldType := fun k => match k with
  | 0 => .int
  | 1 => .int
  | _ => .int
abbrev wsX00 : List Cond := u_ws RX0 TX0 3
theorem nmX0 : ∀ a, a < 3 → ∀ b, b < 3 → a ≠ b → (TX0 a).2.1 ≠ (TX0 b).2.1 := by decide +kernel
theorem tyX0_ok : ∀ k, k < 3 → parseFieldDescriptor (TX0 k).2.2.1 = some (tyX0 k) := by decide +kernel
abbrev cX0_init : ByteArray := prog_2_method_1_code
def yX0_init : MethodName := ⟨RX0, "<init>", "()V"⟩
abbrev cX0_become : ByteArray := prog_2_method_2_code
def yX0_become : MethodName := ⟨RX0, "become", "(III)I"⟩
def RX1 : String := "PuppetTheatre$Chart"
def TX1 : u_T := fun k => match k with
  | 0 => ("PuppetTheatre$Chart", "states", "[LPuppetTheatre$State;", true)
  | 1 => ("PuppetTheatre$Chart", "transitions", "[LPuppetTheatre$Transition;", true)
  | 2 => ("PuppetTheatre$Chart", "causedBy", "[I", true)
  | 3 => ("PuppetTheatre$Chart", "stateCount", "I", false)
  | 4 => ("PuppetTheatre$Chart", "transitionCount", "I", false)
  | 5 => ("PuppetTheatre$Chart", "leaves", "I", false)
  | _ => ("PuppetTheatre$Chart", "ends", "I", false)
def tyX1 : Nat → FieldType := fun k => match k with
  | 0 => .array (.object "PuppetTheatre$State")
  | 1 => .array (.object "PuppetTheatre$Transition")
  | 2 => .array .int
  | 3 => .int
  | 4 => .int
  | 5 => .int
  | _ => .int
abbrev wsX10 : List Cond := u_ws RX1 TX1 7
theorem nmX1 : ∀ a, a < 7 → ∀ b, b < 7 → a ≠ b → (TX1 a).2.1 ≠ (TX1 b).2.1 := by decide +kernel
theorem tyX1_ok : ∀ k, k < 7 → parseFieldDescriptor (TX1 k).2.2.1 = some (tyX1 k) := by decide +kernel
abbrev cX1_init : ByteArray := prog_3_method_1_code
def yX1_init : MethodName := ⟨RX1, "<init>", "()V"⟩
abbrev cX1_putState : ByteArray := prog_3_method_2_code
def yX1_putState : MethodName := ⟨RX1, "putState", "(II)I"⟩
abbrev cX1_putTransition : ByteArray := prog_3_method_3_code
def yX1_putTransition : MethodName := ⟨RX1, "putTransition", "(IIII)I"⟩
abbrev cX1_causeOf : ByteArray := prog_3_method_4_code
def yX1_causeOf : MethodName := ⟨RX1, "causeOf", "(II)I"⟩
abbrev cX1_scopeOf : ByteArray := prog_3_method_5_code
def yX1_scopeOf : MethodName := ⟨RX1, "scopeOf", "(II)I"⟩
abbrev cX1_filled : ByteArray := prog_3_method_6_code
def yX1_filled : MethodName := ⟨RX1, "filled", "(I)I"⟩
abbrev cX1_enteredInto : ByteArray := prog_3_method_7_code
def yX1_enteredInto : MethodName := ⟨RX1, "enteredInto", "(II)I"⟩
abbrev cX1_partsAside : ByteArray := prog_3_method_8_code
def yX1_partsAside : MethodName := ⟨RX1, "partsAside", "(II)I"⟩
abbrev cX1_endedAmong : ByteArray := prog_3_method_9_code
def yX1_endedAmong : MethodName := ⟨RX1, "endedAmong", "(I)I"⟩
def RX2 : String := "PuppetTheatre$Look"
def TX2 : u_T := fun k => match k with
  | 0 => ("PuppetTheatre$Look", "row", "[I", true)
  | 1 => ("PuppetTheatre$Look", "rowLength", "I", false)
  | 2 => ("PuppetTheatre$Look", "lookedAt", "I", false)
  | 3 => ("PuppetTheatre$Look", "trial", "LPuppetTheatre$Play;", true)
  | 4 => ("PuppetTheatre$Look", "found", "[LPuppetTheatre$Situation;", true)
  | 5 => ("PuppetTheatre$Look", "origin", "[I", true)
  | 6 => ("PuppetTheatre$Look", "byCall", "[I", true)
  | 7 => ("PuppetTheatre$Look", "calls", "[I", true)
  | _ => ("PuppetTheatre$Look", "foundCount", "I", false)
def tyX2 : Nat → FieldType := fun k => match k with
  | 0 => .array .int
  | 1 => .int
  | 2 => .int
  | 3 => .object "PuppetTheatre$Play"
  | 4 => .array (.object "PuppetTheatre$Situation")
  | 5 => .array .int
  | 6 => .array .int
  | 7 => .array .int
  | _ => .int
abbrev wsX20 : List Cond := u_ws RX2 TX2 9
theorem nmX2 : ∀ a, a < 9 → ∀ b, b < 9 → a ≠ b → (TX2 a).2.1 ≠ (TX2 b).2.1 := by decide +kernel
theorem tyX2_ok : ∀ k, k < 9 → parseFieldDescriptor (TX2 k).2.2.1 = some (tyX2 k) := by decide +kernel
abbrev cX2_init : ByteArray := prog_4_method_1_code
def yX2_init : MethodName := ⟨RX2, "<init>", "(LPuppetTheatre$Play;)V"⟩
abbrev cX2_search : ByteArray := prog_4_method_2_code
def yX2_search : MethodName := ⟨RX2, "search", "(LPuppetTheatre$Situation;III)I"⟩
abbrev cX2_isReached : ByteArray := prog_4_method_3_code
def yX2_isReached : MethodName := ⟨RX2, "isReached", "(II)Z"⟩
abbrev cX2_keepIfNew : ByteArray := prog_4_method_4_code
def yX2_keepIfNew : MethodName := ⟨RX2, "keepIfNew", "(II)V"⟩
abbrev cX2_writeRow : ByteArray := prog_4_method_5_code
def yX2_writeRow : MethodName := ⟨RX2, "writeRow", "(II)V"⟩
def RX3 : String := "PuppetTheatre$Play"
def TX3 : u_T := fun k => match k with
  | 0 => ("PuppetTheatre$Play", "chart", "LPuppetTheatre$Chart;", true)
  | 1 => ("PuppetTheatre$Play", "situation", "LPuppetTheatre$Situation;", true)
  | 2 => ("PuppetTheatre$Play", "fired", "[I", true)
  | 3 => ("PuppetTheatre$Play", "firedLast", "I", false)
  | 4 => ("PuppetTheatre$Play", "clock", "I", false)
  | 5 => ("PuppetTheatre$Play", "lost", "I", false)
  | 6 => ("PuppetTheatre$Play", "restless", "I", false)
  | 7 => ("PuppetTheatre$Play", "queue", "[I", true)
  | 8 => ("PuppetTheatre$Play", "queued", "I", false)
  | 9 => ("PuppetTheatre$Play", "taken", "[I", true)
  | _ => ("PuppetTheatre$Play", "takenCount", "I", false)
def tyX3 : Nat → FieldType := fun k => match k with
  | 0 => .object "PuppetTheatre$Chart"
  | 1 => .object "PuppetTheatre$Situation"
  | 2 => .array .int
  | 3 => .int
  | 4 => .int
  | 5 => .int
  | 6 => .int
  | 7 => .array .int
  | 8 => .int
  | 9 => .array .int
  | _ => .int
abbrev wsX30 : List Cond := u_ws RX3 TX3 11
theorem nmX3 : ∀ a, a < 11 → ∀ b, b < 11 → a ≠ b → (TX3 a).2.1 ≠ (TX3 b).2.1 := by decide +kernel
theorem tyX3_ok : ∀ k, k < 11 → parseFieldDescriptor (TX3 k).2.2.1 = some (tyX3 k) := by decide +kernel
abbrev cX3_init : ByteArray := prog_5_method_1_code
def yX3_init : MethodName := ⟨RX3, "<init>", "(LPuppetTheatre$Chart;)V"⟩
abbrev cX3_reset : ByteArray := prog_5_method_2_code
def yX3_reset : MethodName := ⟨RX3, "reset", "()V"⟩
abbrev cX3_isAtEnd : ByteArray := prog_5_method_3_code
def yX3_isAtEnd : MethodName := ⟨RX3, "isAtEnd", "()Z"⟩
abbrev cX3_proceed : ByteArray := prog_5_method_4_code
def yX3_proceed : MethodName := ⟨RX3, "proceed", "(I)I"⟩
abbrev cX3_growOlder : ByteArray := prog_5_method_5_code
def yX3_growOlder : MethodName := ⟨RX3, "growOlder", "()V"⟩
abbrev cX3_raise : ByteArray := prog_5_method_6_code
def yX3_raise : MethodName := ⟨RX3, "raise", "(I)V"⟩
abbrev cX3_loseQueue : ByteArray := prog_5_method_7_code
def yX3_loseQueue : MethodName := ⟨RX3, "loseQueue", "()V"⟩
abbrev cX3_nextEvent : ByteArray := prog_5_method_8_code
def yX3_nextEvent : MethodName := ⟨RX3, "nextEvent", "()I"⟩
abbrev cX3_step : ByteArray := prog_5_method_9_code
def yX3_step : MethodName := ⟨RX3, "step", "(I)I"⟩
abbrev cX3_openBy : ByteArray := prog_5_method_10_code
def yX3_openBy : MethodName := ⟨RX3, "openBy", "(I)I"⟩
abbrev cX3_isOpen : ByteArray := prog_5_method_11_code
def yX3_isOpen : MethodName := ⟨RX3, "isOpen", "(LPuppetTheatre$Transition;I)Z"⟩
abbrev cX3_choose : ByteArray := prog_5_method_12_code
def yX3_choose : MethodName := ⟨RX3, "choose", "(I)V"⟩
abbrev cX3_nearestOpen : ByteArray := prog_5_method_13_code
def yX3_nearestOpen : MethodName := ⟨RX3, "nearestOpen", "(II)I"⟩
abbrev cX3_smallestOf : ByteArray := prog_5_method_14_code
def yX3_smallestOf : MethodName := ⟨RX3, "smallestOf", "(I)I"⟩
abbrev cX3_takeIfFree : ByteArray := prog_5_method_15_code
def yX3_takeIfFree : MethodName := ⟨RX3, "takeIfFree", "(I)V"⟩
abbrev cX3_leftBy : ByteArray := prog_5_method_16_code
def yX3_leftBy : MethodName := ⟨RX3, "leftBy", "(LPuppetTheatre$Transition;)I"⟩
abbrev cX3_makeRecords : ByteArray := prog_5_method_17_code
def yX3_makeRecords : MethodName := ⟨RX3, "makeRecords", "(I)V"⟩
abbrev cX3_leave : ByteArray := prog_5_method_18_code
def yX3_leave : MethodName := ⟨RX3, "leave", "(I)V"⟩
abbrev cX3_enter : ByteArray := prog_5_method_19_code
def yX3_enter : MethodName := ⟨RX3, "enter", "(I)V"⟩
abbrev cX3_targetsOf : ByteArray := prog_5_method_20_code
def yX3_targetsOf : MethodName := ⟨RX3, "targetsOf", "(LPuppetTheatre$Transition;)I"⟩
abbrev cX3_act : ByteArray := prog_5_method_21_code
def yX3_act : MethodName := ⟨RX3, "act", "(LPuppetTheatre$Action;)V"⟩
def RX4 : String := "PuppetTheatre$Situation"
def TX4 : u_T := fun k => match k with
  | 0 => ("PuppetTheatre$Situation", "ages", "[I", true)
  | 1 => ("PuppetTheatre$Situation", "records", "[I", true)
  | 2 => ("PuppetTheatre$Situation", "variables", "[I", true)
  | _ => ("PuppetTheatre$Situation", "active", "I", false)
def tyX4 : Nat → FieldType := fun k => match k with
  | 0 => .array .int
  | 1 => .array .int
  | 2 => .array .int
  | _ => .int
abbrev wsX40 : List Cond := u_ws RX4 TX4 4
theorem nmX4 : ∀ a, a < 4 → ∀ b, b < 4 → a ≠ b → (TX4 a).2.1 ≠ (TX4 b).2.1 := by decide +kernel
theorem tyX4_ok : ∀ k, k < 4 → parseFieldDescriptor (TX4 k).2.2.1 = some (tyX4 k) := by decide +kernel
abbrev cX4_init : ByteArray := prog_6_method_1_code
def yX4_init : MethodName := ⟨RX4, "<init>", "()V"⟩
abbrev cX4_deactivate : ByteArray := prog_6_method_2_code
def yX4_deactivate : MethodName := ⟨RX4, "deactivate", "()V"⟩
abbrev cX4_clear : ByteArray := prog_6_method_3_code
def yX4_clear : MethodName := ⟨RX4, "clear", "()V"⟩
abbrev cX4_add : ByteArray := prog_6_method_4_code
def yX4_add : MethodName := ⟨RX4, "add", "(II)V"⟩
abbrev cX4_copyFrom : ByteArray := prog_6_method_5_code
def yX4_copyFrom : MethodName := ⟨RX4, "copyFrom", "(LPuppetTheatre$Situation;)V"⟩
abbrev cX4_isSameAs : ByteArray := prog_6_method_6_code
def yX4_isSameAs : MethodName := ⟨RX4, "isSameAs", "(LPuppetTheatre$Situation;)Z"⟩
def RX5 : String := "PuppetTheatre$State"
def TX5 : u_T := fun k => match k with
  | 0 => ("PuppetTheatre$State", "entering", "LPuppetTheatre$Action;", true)
  | 1 => ("PuppetTheatre$State", "leaving", "LPuppetTheatre$Action;", true)
  | 2 => ("PuppetTheatre$State", "kind", "I", false)
  | 3 => ("PuppetTheatre$State", "parent", "I", false)
  | 4 => ("PuppetTheatre$State", "first", "I", false)
  | 5 => ("PuppetTheatre$State", "parts", "I", false)
  | 6 => ("PuppetTheatre$State", "filledWith", "I", false)
  | 7 => ("PuppetTheatre$State", "beneath", "I", false)
  | _ => ("PuppetTheatre$State", "departing", "I", false)
def tyX5 : Nat → FieldType := fun k => match k with
  | 0 => .object "PuppetTheatre$Action"
  | 1 => .object "PuppetTheatre$Action"
  | 2 => .int
  | 3 => .int
  | 4 => .int
  | 5 => .int
  | 6 => .int
  | 7 => .int
  | _ => .int
abbrev wsX50 : List Cond := u_ws RX5 TX5 9
theorem nmX5 : ∀ a, a < 9 → ∀ b, b < 9 → a ≠ b → (TX5 a).2.1 ≠ (TX5 b).2.1 := by decide +kernel
theorem tyX5_ok : ∀ k, k < 9 → parseFieldDescriptor (TX5 k).2.2.1 = some (tyX5 k) := by decide +kernel
abbrev cX5_init : ByteArray := prog_7_method_1_code
def yX5_init : MethodName := ⟨RX5, "<init>", "()V"⟩
abbrev cX5_isMark : ByteArray := prog_7_method_2_code
def yX5_isMark : MethodName := ⟨RX5, "isMark", "()Z"⟩
abbrev cX5_isHolder : ByteArray := prog_7_method_3_code
def yX5_isHolder : MethodName := ⟨RX5, "isHolder", "()Z"⟩
abbrev cX5_putFirst : ByteArray := prog_7_method_4_code
def yX5_putFirst : MethodName := ⟨RX5, "putFirst", "(I)V"⟩
abbrev cX5_putPart : ByteArray := prog_7_method_5_code
def yX5_putPart : MethodName := ⟨RX5, "putPart", "(I)V"⟩
def RX6 : String := "PuppetTheatre$Transition"
def TX6 : u_T := fun k => match k with
  | 0 => ("PuppetTheatre$Transition", "action", "LPuppetTheatre$Action;", true)
  | 1 => ("PuppetTheatre$Transition", "from", "I", false)
  | 2 => ("PuppetTheatre$Transition", "trigger", "I", false)
  | 3 => ("PuppetTheatre$Transition", "n", "I", false)
  | 4 => ("PuppetTheatre$Transition", "to", "I", false)
  | 5 => ("PuppetTheatre$Transition", "scope", "I", false)
  | 6 => ("PuppetTheatre$Transition", "how", "I", false)
  | 7 => ("PuppetTheatre$Transition", "variable", "I", false)
  | _ => ("PuppetTheatre$Transition", "bound", "I", false)
def tyX6 : Nat → FieldType := fun k => match k with
  | 0 => .object "PuppetTheatre$Action"
  | 1 => .int
  | 2 => .int
  | 3 => .int
  | 4 => .int
  | 5 => .int
  | 6 => .int
  | 7 => .int
  | _ => .int
abbrev wsX60 : List Cond := u_ws RX6 TX6 9
theorem nmX6 : ∀ a, a < 9 → ∀ b, b < 9 → a ≠ b → (TX6 a).2.1 ≠ (TX6 b).2.1 := by decide +kernel
theorem tyX6_ok : ∀ k, k < 9 → parseFieldDescriptor (TX6 k).2.2.1 = some (tyX6 k) := by decide +kernel
abbrev cX6_init : ByteArray := prog_8_method_1_code
def yX6_init : MethodName := ⟨RX6, "<init>", "()V"⟩
abbrev cX6_isAllowed : ByteArray := prog_8_method_2_code
def yX6_isAllowed : MethodName := ⟨RX6, "isAllowed", "([I)Z"⟩
def RX7 : String := "PuppetTheatre"
def TX7 : u_T := fun k => match k with
  | 0 => ("PuppetTheatre", "chart", "LPuppetTheatre$Chart;", true)
  | 1 => ("PuppetTheatre", "play", "LPuppetTheatre$Play;", true)
  | 2 => ("PuppetTheatre", "trial", "LPuppetTheatre$Play;", true)
  | 3 => ("PuppetTheatre", "look", "LPuppetTheatre$Look;", true)
  | _ => ("PuppetTheatre", "running", "Z", false)
def tyX7 : Nat → FieldType := fun k => match k with
  | 0 => .object "PuppetTheatre$Chart"
  | 1 => .object "PuppetTheatre$Play"
  | 2 => .object "PuppetTheatre$Play"
  | 3 => .object "PuppetTheatre$Look"
  | _ => .boolean
abbrev wsX70 : List Cond := u_ws RX7 TX7 5
theorem nmX7 : ∀ a, a < 5 → ∀ b, b < 5 → a ≠ b → (TX7 a).2.1 ≠ (TX7 b).2.1 := by decide +kernel
theorem tyX7_ok : ∀ k, k < 5 → parseFieldDescriptor (TX7 k).2.2.1 = some (tyX7 k) := by decide +kernel
abbrev cX7_init : ByteArray := prog_1_method_1_code
def yX7_init : MethodName := ⟨RX7, "<init>", "()V"⟩
abbrev cX7_addState : ByteArray := prog_1_method_2_code
def yX7_addState : MethodName := ⟨RX7, "addState", "(II)I"⟩
abbrev cX7_setDoing : ByteArray := prog_1_method_4_code
def yX7_setDoing : MethodName := ⟨RX7, "setDoing", "(IZIII)I"⟩
abbrev cX7_addTransition : ByteArray := prog_1_method_5_code
def yX7_addTransition : MethodName := ⟨RX7, "addTransition", "(IIII)I"⟩
abbrev cX7_setGuard : ByteArray := prog_1_method_6_code
def yX7_setGuard : MethodName := ⟨RX7, "setGuard", "(IIII)I"⟩
abbrev cX7_setAction : ByteArray := prog_1_method_7_code
def yX7_setAction : MethodName := ⟨RX7, "setAction", "(IIII)I"⟩
abbrev cX7_start : ByteArray := prog_1_method_8_code
def yX7_start : MethodName := ⟨RX7, "start", "()I"⟩
abbrev cX7_send : ByteArray := prog_1_method_10_code
def yX7_send : MethodName := ⟨RX7, "send", "(I)I"⟩
abbrev cX7_tick : ByteArray := prog_1_method_11_code
def yX7_tick : MethodName := ⟨RX7, "tick", "(I)I"⟩
abbrev cX7_states : ByteArray := prog_1_method_12_code
def yX7_states : MethodName := ⟨RX7, "states", "()I"⟩
abbrev cX7_transitions : ByteArray := prog_1_method_13_code
def yX7_transitions : MethodName := ⟨RX7, "transitions", "()I"⟩
abbrev cX7_ofState : ByteArray := prog_1_method_14_code
def yX7_ofState : MethodName := ⟨RX7, "ofState", "(II)I"⟩
abbrev cX7_isRunning : ByteArray := prog_1_method_15_code
def yX7_isRunning : MethodName := ⟨RX7, "isRunning", "()Z"⟩
abbrev cX7_active : ByteArray := prog_1_method_16_code
def yX7_active : MethodName := ⟨RX7, "active", "()I"⟩
abbrev cX7_isOver : ByteArray := prog_1_method_17_code
def yX7_isOver : MethodName := ⟨RX7, "isOver", "()Z"⟩
abbrev cX7_isEnded : ByteArray := prog_1_method_18_code
def yX7_isEnded : MethodName := ⟨RX7, "isEnded", "(I)Z"⟩
abbrev cX7_ageOf : ByteArray := prog_1_method_19_code
def yX7_ageOf : MethodName := ⟨RX7, "ageOf", "(I)I"⟩
abbrev cX7_record : ByteArray := prog_1_method_20_code
def yX7_record : MethodName := ⟨RX7, "record", "(I)I"⟩
abbrev cX7_variable : ByteArray := prog_1_method_21_code
def yX7_variable : MethodName := ⟨RX7, "variable", "(I)I"⟩
abbrev cX7_clock : ByteArray := prog_1_method_22_code
def yX7_clock : MethodName := ⟨RX7, "clock", "()I"⟩
abbrev cX7_fired : ByteArray := prog_1_method_23_code
def yX7_fired : MethodName := ⟨RX7, "fired", "(I)I"⟩
abbrev cX7_covered : ByteArray := prog_1_method_24_code
def yX7_covered : MethodName := ⟨RX7, "covered", "()I"⟩
abbrev cX7_lost : ByteArray := prog_1_method_25_code
def yX7_lost : MethodName := ⟨RX7, "lost", "()I"⟩
abbrev cX7_restless : ByteArray := prog_1_method_26_code
def yX7_restless : MethodName := ⟨RX7, "restless", "()I"⟩
abbrev cX7_wouldFire : ByteArray := prog_1_method_27_code
def yX7_wouldFire : MethodName := ⟨RX7, "wouldFire", "(I)I"⟩
abbrev cX7_wouldBe : ByteArray := prog_1_method_28_code
def yX7_wouldBe : MethodName := ⟨RX7, "wouldBe", "(I)I"⟩
abbrev cX7_open : ByteArray := prog_1_method_29_code
def yX7_open : MethodName := ⟨RX7, "open", "()I"⟩
abbrev cX7_rowTo : ByteArray := prog_1_method_30_code
def yX7_rowTo : MethodName := ⟨RX7, "rowTo", "(II)I"⟩
abbrev cX7_rowAt : ByteArray := prog_1_method_32_code
def yX7_rowAt : MethodName := ⟨RX7, "rowAt", "(I)I"⟩
abbrev cX7_looked : ByteArray := prog_1_method_33_code
def yX7_looked : MethodName := ⟨RX7, "looked", "()I"⟩
abbrev cX7_meanAge : ByteArray := prog_1_method_34_code
def yX7_meanAge : MethodName := ⟨RX7, "meanAge", "()D"⟩
abbrev cX7_digest : ByteArray := prog_1_method_35_code
def yX7_digest : MethodName := ⟨RX7, "digest", "()J"⟩
abbrev cX7_digestOfStates : ByteArray := prog_1_method_36_code
def yX7_digestOfStates : MethodName := ⟨RX7, "digestOfStates", "(J)J"⟩
abbrev cX7_checkResting : ByteArray := prog_1_method_37_code
def yX7_checkResting : MethodName := ⟨RX7, "checkResting", "()V"⟩
abbrev cX7_checkRunning : ByteArray := prog_1_method_38_code
def yX7_checkRunning : MethodName := ⟨RX7, "checkRunning", "()V"⟩
abbrev cX7_checkState : ByteArray := prog_1_method_39_code
def yX7_checkState : MethodName := ⟨RX7, "checkState", "(I)V"⟩
abbrev cX7_checkTransition : ByteArray := prog_1_method_40_code
def yX7_checkTransition : MethodName := ⟨RX7, "checkTransition", "(I)V"⟩
abbrev cX7_checkEvent : ByteArray := prog_1_method_41_code
def yX7_checkEvent : MethodName := ⟨RX7, "checkEvent", "(I)V"⟩
abbrev cX7_checkMost : ByteArray := prog_1_method_42_code
def yX7_checkMost : MethodName := ⟨RX7, "checkMost", "(I)V"⟩
abbrev cX7_isTrigger : ByteArray := prog_1_method_43_code
def yX7_isTrigger : MethodName := ⟨RX7, "isTrigger", "(II)Z"⟩
abbrev cX7_isGuard : ByteArray := prog_1_method_44_code
def yX7_isGuard : MethodName := ⟨RX7, "isGuard", "(III)Z"⟩
abbrev cX7_isAction : ByteArray := prog_1_method_45_code
def yX7_isAction : MethodName := ⟨RX7, "isAction", "(III)Z"⟩
abbrev cX7_isNumber : ByteArray := prog_1_method_46_code
def yX7_isNumber : MethodName := ⟨RX7, "isNumber", "(I)Z"⟩
abbrev cX7_isWithin : ByteArray := prog_1_method_47_code
def yX7_isWithin : MethodName := ⟨RX7, "isWithin", "(III)Z"⟩
abbrev cX7_setOf : ByteArray := prog_1_method_48_code
def yX7_setOf : MethodName := ⟨RX7, "setOf", "(I)I"⟩
abbrev cX7_has : ByteArray := prog_1_method_49_code
def yX7_has : MethodName := ⟨RX7, "has", "(II)Z"⟩
def RX8 : String := "PuppetTheatreModel$Chart"
def TX8 : u_T := fun k => match k with
  | _ => ("", "", "", false)
def tyX8 : Nat → FieldType := fun k => match k with
  | _ => .int
abbrev wsX80 : List Cond := u_ws RX8 TX8 0
theorem nmX8 : ∀ a, a < 0 → ∀ b, b < 0 → a ≠ b → (TX8 a).2.1 ≠ (TX8 b).2.1 := by decide +kernel
theorem tyX8_ok : ∀ k, k < 0 → parseFieldDescriptor (TX8 k).2.2.1 = some (tyX8 k) := by decide +kernel
def RX9 : String := "PuppetTheatreModel$Run"
def TX9 : u_T := fun k => match k with
  | _ => ("", "", "", false)
def tyX9 : Nat → FieldType := fun k => match k with
  | _ => .int
abbrev wsX90 : List Cond := u_ws RX9 TX9 0
theorem nmX9 : ∀ a, a < 0 → ∀ b, b < 0 → a ≠ b → (TX9 a).2.1 ≠ (TX9 b).2.1 := by decide +kernel
theorem tyX9_ok : ∀ k, k < 0 → parseFieldDescriptor (TX9 k).2.2.1 = some (tyX9 k) := by decide +kernel
def RX10 : String := "PuppetTheatreModel$State"
def TX10 : u_T := fun k => match k with
  | _ => ("", "", "", false)
def tyX10 : Nat → FieldType := fun k => match k with
  | _ => .int
abbrev wsX100 : List Cond := u_ws RX10 TX10 0
theorem nmX10 : ∀ a, a < 0 → ∀ b, b < 0 → a ≠ b → (TX10 a).2.1 ≠ (TX10 b).2.1 := by decide +kernel
theorem tyX10_ok : ∀ k, k < 0 → parseFieldDescriptor (TX10 k).2.2.1 = some (tyX10 k) := by decide +kernel
def RX11 : String := "PuppetTheatreModel$Transition"
def TX11 : u_T := fun k => match k with
  | _ => ("", "", "", false)
def tyX11 : Nat → FieldType := fun k => match k with
  | _ => .int
abbrev wsX110 : List Cond := u_ws RX11 TX11 0
theorem nmX11 : ∀ a, a < 0 → ∀ b, b < 0 → a ≠ b → (TX11 a).2.1 ≠ (TX11 b).2.1 := by decide +kernel
theorem tyX11_ok : ∀ k, k < 0 → parseFieldDescriptor (TX11 k).2.2.1 = some (tyX11 k) := by decide +kernel
def RX12 : String := "PuppetTheatreModel"
def TX12 : u_T := fun k => match k with
  | _ => ("", "", "", false)
def tyX12 : Nat → FieldType := fun k => match k with
  | _ => .int
abbrev wsX120 : List Cond := u_ws RX12 TX12 0
theorem nmX12 : ∀ a, a < 0 → ∀ b, b < 0 → a ≠ b → (TX12 a).2.1 ≠ (TX12 b).2.1 := by decide +kernel
theorem tyX12_ok : ∀ k, k < 0 → parseFieldDescriptor (TX12 k).2.2.1 = some (tyX12 k) := by decide +kernel
def RJx145de : String := "java/io/Serializable"
def TJx145de : u_T := fun k => match k with
  | _ => ("", "", "", false)
def tyJx145de : Nat → FieldType := fun k => match k with
  | _ => .int
abbrev wsJx145de0 : List Cond := u_ws RJx145de TJx145de 0
theorem nmJx145de : ∀ a, a < 0 → ∀ b, b < 0 → a ≠ b → (TJx145de a).2.1 ≠ (TJx145de b).2.1 := by decide +kernel
theorem tyJx145de_ok : ∀ k, k < 0 → parseFieldDescriptor (TJx145de k).2.2.1 = some (tyJx145de k) := by decide +kernel
def RJ6 : String := "java/lang/Integer"
def TJ6 : u_T := fun k => match k with
  | _ => ("", "", "", false)
def tyJ6 : Nat → FieldType := fun k => match k with
  | _ => .int
abbrev wsJ60 : List Cond := u_ws RJ6 TJ6 0
theorem nmJ6 : ∀ a, a < 0 → ∀ b, b < 0 → a ≠ b → (TJ6 a).2.1 ≠ (TJ6 b).2.1 := by decide +kernel
theorem tyJ6_ok : ∀ k, k < 0 → parseFieldDescriptor (TJ6 k).2.2.1 = some (tyJ6 k) := by decide +kernel
abbrev cJ6_bitCount_0f7a4 : ByteArray := prog_19_method_49_code
def yJ6_bitCount_0f7a4 : MethodName := ⟨RJ6, "bitCount", "(I)I"⟩
def RJ9 : String := "java/lang/Math"
def TJ9 : u_T := fun k => match k with
  | _ => ("", "", "", false)
def tyJ9 : Nat → FieldType := fun k => match k with
  | _ => .int
abbrev wsJ90 : List Cond := u_ws RJ9 TJ9 0
theorem nmJ9 : ∀ a, a < 0 → ∀ b, b < 0 → a ≠ b → (TJ9 a).2.1 ≠ (TJ9 b).2.1 := by decide +kernel
theorem tyJ9_ok : ∀ k, k < 0 → parseFieldDescriptor (TJ9 k).2.2.1 = some (tyJ9 k) := by decide +kernel
abbrev cJ9_max_7cf53 : ByteArray := prog_20_method_65_code
def yJ9_max_7cf53 : MethodName := ⟨RJ9, "max", "(II)I"⟩
abbrev cJ9_min_7cf53 : ByteArray := prog_20_method_69_code
def yJ9_min_7cf53 : MethodName := ⟨RJ9, "min", "(II)I"⟩
def RJ10 : String := "java/lang/System"
def TJ10 : u_T := fun k => match k with
  | _ => ("", "", "", false)
def tyJ10 : Nat → FieldType := fun k => match k with
  | _ => .int
abbrev wsJ100 : List Cond := u_ws RJ10 TJ10 0
theorem nmJ10 : ∀ a, a < 0 → ∀ b, b < 0 → a ≠ b → (TJ10 a).2.1 ≠ (TJ10 b).2.1 := by decide +kernel
theorem tyJ10_ok : ∀ k, k < 0 → parseFieldDescriptor (TJ10 k).2.2.1 = some (tyJ10 k) := by decide +kernel
def RL : String := "PuppetTheatreLaw"
abbrev cL_below : ByteArray := method_2_code
def yL_below : MethodName := ⟨RL, "below", "(II)I"⟩
abbrev cL_cell : ByteArray := method_3_code
def yL_cell : MethodName := ⟨RL, "cell", "([II)I"⟩
abbrev cL_doing : ByteArray := method_4_code
def yL_doing : MethodName := ⟨RL, "doing", "(II)[I"⟩
abbrev cL_build : ByteArray := method_5_code
def yL_build : MethodName := ⟨RL, "build", "(LPuppetTheatre;[IIIII)[I"⟩
abbrev cL_isSound : ByteArray := method_6_code
def yL_isSound : MethodName := ⟨RL, "isSound", "(LPuppetTheatre;[I)Z"⟩
abbrev cL_law : ByteArray := code
def yL_law : MethodName := ⟨RL, "law", "([I)Z"⟩
abbrev vwCl : List vw_C := [(RX0, TX0, 3), (RX1, TX1, 7), (RX2, TX2, 9), (RX3, TX3, 11), (RX4, TX4, 4), (RX5, TX5, 9), (RX6, TX6, 9), (RX7, TX7, 5)]
end
section
/-! THE ENGINE'S OBJECTS, numbered in the order in which the constructor makes them: 0 the engine, 1 Chart, 2 states, 3 transitions, 4 causedBy, 5 + 3 s State s and its two Actions, 65 + 2 t Transition t and its Action, 125 and 133 the two Plays (+1 Situation, +2 ages, +3 records, +4 variables, +5 fired, +6 queue, +7 taken), 141 Look, 142 row, 143 found, 144 origin, 145 byCall, 146 calls, 147 + 4 i Situation i (+1 ages, +2 records, +3 variables). All references are constant; what changes is ints: M k j is the int in slot (or place) j of object k. -/
abbrev pt_cl : List vw_C := [(RX0, TX0, 3), (RX1, TX1, 7), (RX2, TX2, 9), (RX3, TX3, 11), (RX4, TX4, 4), (RX5, TX5, 9), (RX6, TX6, 9), (RX7, TX7, 5)]
abbrev pt_M : Type := Nat → Nat → Int32
def pt_kd (k : Nat) : Nat := if k < 5 then (if k = 0 then 7 else if k = 1 then 1 else if k = 2 then 9 else if k = 3 then 10 else 8) else if k < 65 then (if (k - 5) % 3 = 0 then 5 else 0) else if k < 125 then (if (k - 65) % 2 = 0 then 6 else 0) else if k < 141 then (if (k - 125) % 8 = 0 then 3 else if (k - 125) % 8 = 1 then 4 else 8) else if k < 147 then (if k = 141 then 2 else if k = 143 then 11 else 8) else if k < 387 then (if (k - 147) % 4 = 0 then 4 else 8) else 12
def pt_len (k : Nat) : Nat := if k < 125 then 12 else if k < 141 then (if (k - 125) % 8 = 4 then 4 else if (k - 125) % 8 = 5 then 30 else if (k - 125) % 8 = 6 then 8 else if (k - 125) % 8 = 7 then 30 else 20) else if k < 147 then (if k = 142 then 8 else 60) else (if (k - 147) % 4 = 3 then 4 else 20)
def pt_cel (cA : Nat → ClassId) (ad : Nat → Nat) (k : Nat) (m : Nat → Int32) : va_E := match pt_kd k with
  | 0 => .inr (0, [.int (m 0), .int (m 1), .int (m 2)])
  | 1 => .inr (1, [.ref (ad 2), .ref (ad 3), .ref (ad 4), .int (m 3), .int (m 4), .int (m 5), .int (m 6)])
  | 2 => .inr (2, [.ref (ad 142), .int (m 1), .int (m 2), .ref (ad 133), .ref (ad 143), .ref (ad 144), .ref (ad 145), .ref (ad 146), .int (m 8)])
  | 3 => .inr (3, [.ref (ad 1), .ref (ad (k + 1)), .ref (ad (k + 5)), .int (m 3), .int (m 4), .int (m 5), .int (m 6), .ref (ad (k + 6)), .int (m 8), .ref (ad (k + 7)), .int (m 10)])
  | 4 => .inr (4, [.ref (ad (k + 1)), .ref (ad (k + 2)), .ref (ad (k + 3)), .int (m 3)])
  | 5 => .inr (5, [.ref (ad (k + 1)), .ref (ad (k + 2)), .int (m 2), .int (m 3), .int (m 4), .int (m 5), .int (m 6), .int (m 7), .int (m 8)])
  | 6 => .inr (6, [.ref (ad (k + 1)), .int (m 1), .int (m 2), .int (m 3), .int (m 4), .int (m 5), .int (m 6), .int (m 7), .int (m 8)])
  | 7 => .inr (7, [.ref (ad 1), .ref (ad 125), .ref (ad 133), .ref (ad 141), .int (m 4)])
  | 8 => .inl (cA 0, pt_len k, .inl m)
  | 9 => .inl (cA 1, 20, .inr (.inr (.inr (.inr (fun i => some (ad (5 + 3 * i)))))))
  | 10 => .inl (cA 2, 30, .inr (.inr (.inr (.inr (fun i => some (ad (65 + 2 * i)))))))
  | _ => .inl (cA 3, 60, .inr (.inr (.inr (.inr (fun i => some (ad (147 + 4 * i)))))))
def pt_W (cA : Nat → ClassId) (ad : Nat → Nat) (M : pt_M) : va_W := (List.range 387).map fun k => (ad k, pt_cel cA ad k (M k))
/-- one int is written -/
def pt_st (M : pt_M) (k j : Nat) (x : Int32) : pt_M := fun a => if a = k then (fun b => if b = j then x else M k b) else M a
/-- the first n ints of object i go to object k -/
def pt_cp (M : pt_M) (k i n : Nat) : pt_M := fun a => if a = k then va_cpy (M i) (M k) 0 0 n else M a
theorem pt_st_k {M : pt_M} {k j : Nat} {x : Int32} : pt_st M k j x k = fun b => if b = j then x else M k b := if_pos rfl
theorem pt_st_o {M : pt_M} {k j a : Nat} {x : Int32} (h : a ≠ k) : pt_st M k j x a = M a := if_neg h
theorem pt_cp_k {M : pt_M} {k i n : Nat} : pt_cp M k i n k = va_cpy (M i) (M k) 0 0 n := if_pos rfl
theorem pt_cp_o {M : pt_M} {k i n a : Nat} (h : a ≠ k) : pt_cp M k i n a = M a := if_neg h
def pt_T (cA : Nat → ClassId) : List (ClassId × FieldType) := [(cA 0, .int), (cA 1, .object RX5), (cA 2, .object RX6), (cA 3, .object RX4)]
theorem pt_lt {k : Nat} (h : pt_kd k ≠ 12) : k < 387 := by
  unfold pt_kd at h
  rcases Nat.lt_or_ge k 387 with q | q
  · exact q
  · exfalso
    apply h
    rw [if_neg (by omega), if_neg (by omega), if_neg (by omega), if_neg (by omega), if_neg (by omega), if_neg (by omega)]
theorem pt_l0 {k : Nat} (h : pt_kd k = 0) : k < 387 := pt_lt (by rw [h]; decide)
theorem pt_l1 {k : Nat} (h : pt_kd k = 1) : k < 387 := pt_lt (by rw [h]; decide)
theorem pt_l2 {k : Nat} (h : pt_kd k = 2) : k < 387 := pt_lt (by rw [h]; decide)
theorem pt_l3 {k : Nat} (h : pt_kd k = 3) : k < 387 := pt_lt (by rw [h]; decide)
theorem pt_l4 {k : Nat} (h : pt_kd k = 4) : k < 387 := pt_lt (by rw [h]; decide)
theorem pt_l5 {k : Nat} (h : pt_kd k = 5) : k < 387 := pt_lt (by rw [h]; decide)
theorem pt_l6 {k : Nat} (h : pt_kd k = 6) : k < 387 := pt_lt (by rw [h]; decide)
theorem pt_l7 {k : Nat} (h : pt_kd k = 7) : k < 387 := pt_lt (by rw [h]; decide)
theorem pt_l8 {k : Nat} (h : pt_kd k = 8) : k < 387 := pt_lt (by rw [h]; decide)
section PTC
variable {cA : Nat → ClassId} {ad : Nat → Nat} {k : Nat} (m : Nat → Int32)
theorem pt_c0 (h : pt_kd k = 0) : pt_cel cA ad k m = .inr (0, [.int (m 0), .int (m 1), .int (m 2)]) := by unfold pt_cel; rw [h]; rfl
theorem pt_c1 (h : pt_kd k = 1) : pt_cel cA ad k m = .inr (1, [.ref (ad 2), .ref (ad 3), .ref (ad 4), .int (m 3), .int (m 4), .int (m 5), .int (m 6)]) := by unfold pt_cel; rw [h]; rfl
theorem pt_c2 (h : pt_kd k = 2) : pt_cel cA ad k m = .inr (2, [.ref (ad 142), .int (m 1), .int (m 2), .ref (ad 133), .ref (ad 143), .ref (ad 144), .ref (ad 145), .ref (ad 146), .int (m 8)]) := by unfold pt_cel; rw [h]; rfl
theorem pt_c3 (h : pt_kd k = 3) : pt_cel cA ad k m = .inr (3, [.ref (ad 1), .ref (ad (k + 1)), .ref (ad (k + 5)), .int (m 3), .int (m 4), .int (m 5), .int (m 6), .ref (ad (k + 6)), .int (m 8), .ref (ad (k + 7)), .int (m 10)]) := by unfold pt_cel; rw [h]; rfl
theorem pt_c4 (h : pt_kd k = 4) : pt_cel cA ad k m = .inr (4, [.ref (ad (k + 1)), .ref (ad (k + 2)), .ref (ad (k + 3)), .int (m 3)]) := by unfold pt_cel; rw [h]; rfl
theorem pt_c5 (h : pt_kd k = 5) : pt_cel cA ad k m = .inr (5, [.ref (ad (k + 1)), .ref (ad (k + 2)), .int (m 2), .int (m 3), .int (m 4), .int (m 5), .int (m 6), .int (m 7), .int (m 8)]) := by unfold pt_cel; rw [h]; rfl
theorem pt_c6 (h : pt_kd k = 6) : pt_cel cA ad k m = .inr (6, [.ref (ad (k + 1)), .int (m 1), .int (m 2), .int (m 3), .int (m 4), .int (m 5), .int (m 6), .int (m 7), .int (m 8)]) := by unfold pt_cel; rw [h]; rfl
theorem pt_c7 (h : pt_kd k = 7) : pt_cel cA ad k m = .inr (7, [.ref (ad 1), .ref (ad 125), .ref (ad 133), .ref (ad 141), .int (m 4)]) := by unfold pt_cel; rw [h]; rfl
theorem pt_c8 {n : Nat} (h : pt_kd k = 8 ∧ pt_len k = n) : pt_cel cA ad k m = .inl (cA 0, n, .inl m) := by unfold pt_cel; rw [h.1, h.2]; rfl
end PTC
theorem pt_c9 {cA : Nat → ClassId} {ad : Nat → Nat} {m : Nat → Int32} : pt_cel cA ad 2 m = .inl (cA 1, 20, .inr (.inr (.inr (.inr (fun i => some (ad (5 + 3 * i))))))) := rfl
theorem pt_c10 {cA : Nat → ClassId} {ad : Nat → Nat} {m : Nat → Int32} : pt_cel cA ad 3 m = .inl (cA 2, 30, .inr (.inr (.inr (.inr (fun i => some (ad (65 + 2 * i))))))) := rfl
theorem pt_c11 {cA : Nat → ClassId} {ad : Nat → Nat} {m : Nat → Int32} : pt_cel cA ad 143 m = .inl (cA 3, 60, .inr (.inr (.inr (.inr (fun i => some (ad (147 + 4 * i))))))) := rfl
-- what an object's own objects are
set_option maxRecDepth 20000 in
theorem pt_q3' : ∀ k, k < 387 → pt_kd k = 3 → pt_kd (k + 1) = 4 ∧ (pt_kd (k + 5) = 8 ∧ pt_len (k + 5) = 30) ∧ (pt_kd (k + 6) = 8 ∧ pt_len (k + 6) = 8) ∧ (pt_kd (k + 7) = 8 ∧ pt_len (k + 7) = 30) := by decide +kernel
set_option maxRecDepth 20000 in
theorem pt_q4' : ∀ k, k < 387 → pt_kd k = 4 → (pt_kd (k + 1) = 8 ∧ pt_len (k + 1) = 20) ∧ (pt_kd (k + 2) = 8 ∧ pt_len (k + 2) = 20) ∧ (pt_kd (k + 3) = 8 ∧ pt_len (k + 3) = 4) := by decide +kernel
set_option maxRecDepth 20000 in
theorem pt_q5' : ∀ k, k < 387 → pt_kd k = 5 → pt_kd (k + 1) = 0 ∧ pt_kd (k + 2) = 0 := by decide +kernel
set_option maxRecDepth 20000 in
theorem pt_q6' : ∀ k, k < 387 → pt_kd k = 6 → pt_kd (k + 1) = 0 := by decide +kernel
theorem pt_3s {k : Nat} (h : pt_kd k = 3) : pt_kd (k + 1) = 4 := (pt_q3' k (pt_l3 h) h).1
theorem pt_3f {k : Nat} (h : pt_kd k = 3) : pt_kd (k + 5) = 8 ∧ pt_len (k + 5) = 30 := (pt_q3' k (pt_l3 h) h).2.1
theorem pt_3q {k : Nat} (h : pt_kd k = 3) : pt_kd (k + 6) = 8 ∧ pt_len (k + 6) = 8 := (pt_q3' k (pt_l3 h) h).2.2.1
theorem pt_3t {k : Nat} (h : pt_kd k = 3) : pt_kd (k + 7) = 8 ∧ pt_len (k + 7) = 30 := (pt_q3' k (pt_l3 h) h).2.2.2
theorem pt_4a {k : Nat} (h : pt_kd k = 4) : pt_kd (k + 1) = 8 ∧ pt_len (k + 1) = 20 := (pt_q4' k (pt_l4 h) h).1
theorem pt_4r {k : Nat} (h : pt_kd k = 4) : pt_kd (k + 2) = 8 ∧ pt_len (k + 2) = 20 := (pt_q4' k (pt_l4 h) h).2.1
theorem pt_4v {k : Nat} (h : pt_kd k = 4) : pt_kd (k + 3) = 8 ∧ pt_len (k + 3) = 4 := (pt_q4' k (pt_l4 h) h).2.2
theorem pt_5e {k : Nat} (h : pt_kd k = 5) : pt_kd (k + 1) = 0 := (pt_q5' k (pt_l5 h) h).1
theorem pt_5l {k : Nat} (h : pt_kd k = 5) : pt_kd (k + 2) = 0 := (pt_q5' k (pt_l5 h) h).2
theorem pt_6a {k : Nat} (h : pt_kd k = 6) : pt_kd (k + 1) = 0 := pt_q6' k (pt_l6 h) h
set_option maxRecDepth 20000 in
theorem pt_ks' : ∀ i, i < 20 → pt_kd (5 + 3 * i) = 5 := by decide +kernel
set_option maxRecDepth 20000 in
theorem pt_kt' : ∀ i, i < 30 → pt_kd (65 + 2 * i) = 6 := by decide +kernel
set_option maxRecDepth 20000 in
theorem pt_kq' : ∀ i, i < 60 → pt_kd (147 + 4 * i) = 4 := by decide +kernel
theorem pt_inlt {i : Int32} {n : Nat} (h : vp_in i n) : i.toNatClampNeg < n := Nat.not_le.mp fun q => h (Or.inr q)
/-- the object in a place of states, transitions, found -/
def pt_s (i : Int32) : Nat := 5 + 3 * i.toNatClampNeg
def pt_t (i : Int32) : Nat := 65 + 2 * i.toNatClampNeg
def pt_q (i : Int32) : Nat := 147 + 4 * i.toNatClampNeg
theorem pt_ks {i : Int32} (h : vp_in i 20) : pt_kd (pt_s i) = 5 := pt_ks' _ (pt_inlt h)
theorem pt_kt {i : Int32} (h : vp_in i 30) : pt_kd (pt_t i) = 6 := pt_kt' _ (pt_inlt h)
theorem pt_kq {i : Int32} (h : vp_in i 60) : pt_kd (pt_q i) = 4 := pt_kq' _ (pt_inlt h)
theorem pt_W_get {cA : Nat → ClassId} {ad : Nat → Nat} {M : pt_M} {k : Nat} (hk : k < 387) : (pt_W cA ad M)[k]? = some (ad k, pt_cel cA ad k (M k)) := by simp [pt_W, hk]
theorem pt_W_upd {cA : Nat → ClassId} {ad : Nat → Nat} {M M1 : pt_M} {k : Nat} {e : va_E} (hk : k < 387) (he : pt_cel cA ad k (M1 k) = e) (ho : ∀ a, a ≠ k → M1 a = M a) : (pt_W cA ad M).set k (ad k, e) = pt_W cA ad M1 := by
  apply List.ext_getElem?
  intro i
  rw [List.getElem?_set]
  rcases Nat.lt_or_ge i 387 with hi | hi
  · by_cases h : k = i
    · subst h
      rw [if_pos rfl, if_pos (by simp [pt_W, hk]), pt_W_get hi, he]
    · rw [if_neg h, pt_W_get hi, pt_W_get hi, ho i (fun q => h q.symm)]
  · have h1 : (pt_W cA ad M)[i]? = none := List.getElem?_eq_none (by simp [pt_W, hi])
    have h2 : (pt_W cA ad M1)[i]? = none := List.getElem?_eq_none (by simp [pt_W, hi])
    rw [if_neg (by omega), h1, h2]
theorem pt_k0 : pt_kd 0 = 7 := by decide
theorem pt_k1 : pt_kd 1 = 1 := by decide
theorem pt_k141 : pt_kd 141 = 2 := by decide
theorem pt_k125 : pt_kd 125 = 3 := by decide
theorem pt_k133 : pt_kd 133 = 3 := by decide
theorem pt_a4 : pt_kd 4 = 8 ∧ pt_len 4 = 12 := by decide
theorem pt_a142 : pt_kd 142 = 8 ∧ pt_len 142 = 8 := by decide
theorem pt_a144 : pt_kd 144 = 8 ∧ pt_len 144 = 60 := by decide
theorem pt_a145 : pt_kd 145 = 8 ∧ pt_len 145 = 60 := by decide
theorem pt_a146 : pt_kd 146 = 8 ∧ pt_len 146 = 60 := by decide
-- switches
theorem pt_ine {x : Int32} (v : Int) (h : ¬ x = Int32.ofInt v) (h1 : -2147483648 ≤ v) (h2 : v < 2147483648) : x.toInt ≠ v := by
  intro e
  apply h
  apply Int32.toInt_inj.mp
  rw [e, Int32.toInt_ofInt_of_le h1 h2]
theorem pt_out13 {x : Int32} (h1 : ¬ x = 1) (h2 : ¬ x = 2) (h3 : ¬ x = 3) : x.toInt < 1 ∨ 3 < x.toInt := by
  have a := pt_ine 1 h1 (by decide) (by decide)
  have b := pt_ine 2 h2 (by decide) (by decide)
  have c := pt_ine 3 h3 (by decide) (by decide)
  omega
theorem pt_out03 {x : Int32} (h0 : ¬ x = 0) (h1 : ¬ x = 1) (h2 : ¬ x = 2) (h3 : ¬ x = 3) : x.toInt < 0 ∨ 3 < x.toInt := by
  have z := pt_ine 0 h0 (by decide) (by decide)
  have a := pt_ine 1 h1 (by decide) (by decide)
  have b := pt_ine 2 h2 (by decide) (by decide)
  have c := pt_ine 3 h3 (by decide) (by decide)
  omega
theorem pt_look1_2 {x : Int32} {a b d : Int} (h1 : ¬ x = 1) (h2 : ¬ x = 2) : Op.lookupswitch.offset [(1, a), (2, b)] d x.toInt = d := by
  have e1 := pt_ine 1 h1 (by decide) (by decide)
  have e2 := pt_ine 2 h2 (by decide) (by decide)
  simp [Op.lookupswitch.offset, Ne.symm e1, Ne.symm e2]
-- the table's words last, whoever calls (those that the class's own methods need)
def pt_okw (w : Cond) : Bool := goodWord w || (match w with | .methodLinkNest .. => true | .fieldLinkNest .. => true | .arrayOver (.object _) => true | _ => false)
def lw_all : List Cond := lw_tbl.filter pt_okw
theorem pt_all {w : Cond} (h : w ∈ lw_tbl) (h2 : pt_okw w = true) : w ∈ lw_all := List.mem_filter.mpr ⟨h, h2⟩
theorem pt_all_tbl {w : Cond} (h : w ∈ lw_all) : w ∈ lw_tbl := (List.mem_filter.mp h).1
theorem pt_pay {args : Array Value} {s : State} (hts : ∀ w ∈ lw_all, w.before args s = true) : ∀ w ∈ lw_all, ∀ (a' : Array Value) (U : State), s.WarmedH U.vm → w.before a' U = true := by
  intro w hw a' U hW
  have h1 := (List.mem_filter.mp hw).2
  have h2 := hts w hw
  unfold pt_okw at h1
  rcases Bool.or_eq_true _ _ ▸ h1 with h1 | h1
  · exact word_at hW (good_of_word h1) h2
  · split at h1
    · exact va_Nw.use rfl (va_Nw.warmM hW (va_Nw.of rfl h2))
    · exact va_Nw.use rfl (va_Nw.warmF hW (va_Nw.of rfl h2))
    · exact va_AO.use (va_AO.moved hW.alike (va_AO.of h2))
    · cases h1
abbrev pt_F (p : Program) (m : MethodId) (c : Code) (cc : ByteArray) (nL : Nat) (s : State) (args : Array Value) (own : String) (D : va_G) (cA : Nat → ClassId) : Prop := CallFix p m c cc nL s args lw_all own ∧ va_K D pt_cl (pt_T cA) s
/-- a method's start, and its end: the engine's objects hold M -/
def pt_P (D : va_G) (cA : Nat → ClassId) (ad : Nat → Nat) (sz : Nat) (M : pt_M) : State → Prop := fun U => U.heap.size = sz ∧ va_P D pt_cl (pt_W cA ad M) U.heap ∧ va_K D pt_cl (pt_T cA) U
def pt_B (D : va_G) (cA : Nat → ClassId) (ad : Nat → Nat) : pt_M → State → Prop := fun M t => va_P D pt_cl (pt_W cA ad M) t.heap
def pt_fr (ad : Nat → Nat) (sz : Nat) : Nat → Prop := fun q => (∃ k, k < 387 ∧ q = ad k) ∨ sz ≤ q
def pt_I (ad : Nat → Nat) : Prop := ∀ i j, i < 387 → j < 387 → ad i = ad j → i = j
theorem pt_D {cA : Nat → ClassId} {ad : Nat → Nat} (hI : pt_I ad) {A : Nat → Prop} (hA : ∀ k, k < 387 → A (ad k)) (M : pt_M) : va_D A (pt_W cA ad M) := by
  have key : ∀ (k : Nat) (q : Nat × va_E), (pt_W cA ad M)[k]? = some q → k < 387 ∧ q.1 = ad k := by
    intro k q h
    have hk : k < 387 := by
      have := (List.getElem?_eq_some_iff.mp h).1
      simpa [pt_W] using this
    rw [pt_W_get hk] at h
    cases h
    exact ⟨hk, rfl⟩
  refine ⟨fun i j p q hi hj e => ?_, fun k q h => ?_⟩
  · obtain ⟨a1, a2⟩ := key i p hi
    obtain ⟨b1, b2⟩ := key j q hj
    exact hI i j a1 b1 (a2.symm.trans (e.trans b2))
  · obtain ⟨a1, a2⟩ := key k q h
    rw [a2]
    exact hA k a1
theorem pt_blind {D : va_G} {cA : Nat → ClassId} {ad : Nat → Nat} {sz : Nat} {M : pt_M} {As : List Value} : FrameBlind (va_Pc As (pt_P D cA ad sz M)) := fun a U g mk q => ⟨q.1, q.2.1, q.2.2.1, va_K.moved (u := U) (U := U.calling g mk a) (Vm.Alike.refl U.vm) q.2.2.2⟩
/-- a boolean -/
def pt_zb (x : Int32) : Prop := x = 0 ∨ x = 1
theorem pt_zb_n {x : Int32} (h : pt_zb x) : narrow .boolean (.int x) = .int x := by rcases h with rfl | rfl <;> rfl
theorem pt_zb_f {x : Int32} (h : pt_zb x) : fits .boolean (.int x) = true := by rcases h with rfl | rfl <;> rfl
section PTR
variable {p : Program} {l : Launch} {e : Env} {R : Room} {s : State} {m : MethodId} {args : Array Value} {below : List Frame} {meth : Method} {c : Code} {H : Heap} {locs : List Loc} {cells slots : Nat} {Q : State → Prop}
variable {cc : ByteArray} {pc nL : Nat} {ls : Array Slot} {rest st : List Value} {D : va_G} {A : Nat → Prop} {cA : Nat → ClassId} {ad : Nat → Nat} {M : pt_M} {H0 : Heap} {own : String} {k : Nat}
theorem pt_get (F : pt_F p m c cc nL s args own D cA) (hP : va_P D pt_cl (pt_W cA ad M) H) {ci : Nat} {fs : List Value} (hc : pt_cel cA ad k (M k) = .inr (ci, fs)) (hk : k < 387) {C ref : String} {T : u_T} {N index : Nat} (hin : ∀ w ∈ u_ws C T N, w ∈ lw_all) (hcl : pt_cl[ci]? = some (C, T, N)) (j : Nat) (hj : j < N) (hlink : Cond.fieldLink own index ref (T j).2.1 (T j).2.2.1 ∈ lw_all) (hsame : (T j).1 = ref) {v : Value} (hv : fs[j]? = some v) (hdg : decode cc pc = .ok (.getfield index, 3))
    (kk : W p l e R s m args below meth c H locs cells slots Q (F0 m (pc + 3) ls (v :: rest))) : W p l e R s m args below meth c H locs cells slots Q (F0 m pc ls (.ref (ad k) :: rest)) :=
  va_get (D := D) (ci := ci) F.1.1 F.1.2.1 F.1.2.2.2.2 hin F.1.2.2.2.1 F.2 hP k (by rw [pt_W_get hk, hc]) hcl j hj (F.1.2.2.2.2 _ hlink) (fun x h => by rw [← hsame]; exact h) hv hdg kk
theorem pt_put (F : pt_F p m c cc nL s args own D cA) (hP : va_P D pt_cl (pt_W cA ad M) H) (hD : ∀ M, va_D A (pt_W cA ad M)) (hS : va_S A H0 H locs) {ci : Nat} {fs : List Value} (hc : pt_cel cA ad k (M k) = .inr (ci, fs)) (hk : k < 387) {C ref : String} {T : u_T} {N index : Nat} (hin : ∀ w ∈ u_ws C T N, w ∈ lw_all) (ty0 : Nat → FieldType) (hty : ∀ k, k < N → parseFieldDescriptor (T k).2.2.1 = some (ty0 k)) (hnm : ∀ a, a < N → ∀ b, b < N → a ≠ b → (T a).2.1 ≠ (T b).2.1) (hcl : pt_cl[ci]? = some (C, T, N)) (j : Nat) (hj : j < N) (hlink : Cond.fieldLink own index ref (T j).2.1 (T j).2.2.1 ∈ lw_all) (hsame : (T j).1 = ref) (hfin : (T j).2.2.2 = false) {x : Int32} (hn : narrow (ty0 j) (.int x) = .int x) (hfit : fits (ty0 j) (.int x) = true) (hl : j < fs.length)
    (hc1 : pt_cel cA ad k (fun b => if b = j then x else M k b) = .inr (ci, fs.set j (.int x))) (hdg : decode cc pc = .ok (.putfield index, 3))
    (kk : ∀ (M1 : pt_M) (H1 : Heap) (locs1 : List Loc), M1 = pt_st M k j x → va_P D pt_cl (pt_W cA ad M1) H1 → va_S A H0 H1 locs1 → W p l e R s m args below meth c H1 locs1 cells slots Q (F0 m (pc + 3) ls rest)) : W p l e R s m args below meth c H locs cells slots Q (F0 m pc ls (.int x :: .ref (ad k) :: rest)) := by
  refine va_put (D := D) (ci := ci) (ty := ty0 j) F.1.1 F.1.2.1 F.1.2.2.2.2 hin ty0 hty hnm F.1.2.2.2.1 F.2 hP (hD M) hS k (fs := fs) (by rw [pt_W_get hk, hc]) hcl j hj (F.1.2.2.2.2 _ hlink) (fun x h => by rw [← hsame]; exact h) hfin (hty j hj) hn hfit hl hdg (fun H1 locs1 g1 _ g3 => ?_)
  rw [pt_W_upd (M1 := pt_st M k j x) hk (by rw [pt_st_k]; exact hc1) (fun a h => pt_st_o h)] at g1
  exact kk _ H1 locs1 rfl g1 g3
theorem pt_iald (F : pt_F p m c cc nL s args own D cA) (hP : va_P D pt_cl (pt_W cA ad M) H) {n : Nat} (h8 : pt_kd k = 8 ∧ pt_len k = n) {i : Int32} (hin : vp_in i n) (hdg : decode cc pc = .ok (.iaload, 1))
    (kk : W p l e R s m args below meth c H locs cells slots Q (F0 m (pc + 1) ls (.int (M k i.toNatClampNeg) :: rest))) : W p l e R s m args below meth c H locs cells slots Q (F0 m pc ls (.int i :: .ref (ad k) :: rest)) :=
  va_iald (D := D) F.1.1 F.1.2.1 F.2 hP k 0 (by rw [pt_W_get (pt_l8 h8.1), pt_c8 _ h8]) rfl hin hdg kk
theorem pt_iast (F : pt_F p m c cc nL s args own D cA) (hP : va_P D pt_cl (pt_W cA ad M) H) (hD : ∀ M, va_D A (pt_W cA ad M)) (hS : va_S A H0 H locs) {n : Nat} (h8 : pt_kd k = 8 ∧ pt_len k = n) {i x : Int32} (hin : vp_in i n) (hdg : decode cc pc = .ok (.iastore, 1))
    (kk : ∀ (M1 : pt_M) (H1 : Heap) (locs1 : List Loc), M1 = pt_st M k i.toNatClampNeg x → va_P D pt_cl (pt_W cA ad M1) H1 → va_S A H0 H1 locs1 → W p l e R s m args below meth c H1 locs1 cells slots Q (F0 m (pc + 1) ls rest)) : W p l e R s m args below meth c H locs cells slots Q (F0 m pc ls (.int x :: .int i :: .ref (ad k) :: rest)) := by
  refine va_iast (D := D) F.1.1 F.1.2.1 F.2 hP (hD M) hS k 0 (by rw [pt_W_get (pt_l8 h8.1), pt_c8 _ h8]) rfl hin hdg (fun H1 locs1 g1 _ g3 => ?_)
  rw [pt_W_upd (M1 := pt_st M k i.toNatClampNeg x) (pt_l8 h8.1) (by rw [pt_st_k]; exact pt_c8 _ h8) (fun a h => pt_st_o h)] at g1
  exact kk _ H1 locs1 rfl g1 g3
theorem pt_alen (F : pt_F p m c cc nL s args own D cA) (hP : va_P D pt_cl (pt_W cA ad M) H) {n : Nat} (h8 : pt_kd k = 8 ∧ pt_len k = n) {v : Int32} (hv : Int32.ofNat n = v) (hdg : decode cc pc = .ok (.arraylength, 1))
    (kk : W p l e R s m args below meth c H locs cells slots Q (F0 m (pc + 1) ls (.int v :: rest))) : W p l e R s m args below meth c H locs cells slots Q (F0 m pc ls (.ref (ad k) :: rest)) :=
  va_alen (D := D) F.1.1 F.1.2.1 F.2 hP k 0 (x := (n, .inl (M k))) (by rw [pt_W_get (pt_l8 h8.1), pt_c8 _ h8]) rfl hv hdg kk
theorem pt_alen11 (F : pt_F p m c cc nL s args own D cA) (hP : va_P D pt_cl (pt_W cA ad M) H) {v : Int32} (hv : Int32.ofNat 60 = v) (hdg : decode cc pc = .ok (.arraylength, 1))
    (kk : W p l e R s m args below meth c H locs cells slots Q (F0 m (pc + 1) ls (.int v :: rest))) : W p l e R s m args below meth c H locs cells slots Q (F0 m pc ls (.ref (ad 143) :: rest)) :=
  va_alen (D := D) F.1.1 F.1.2.1 F.2 hP 143 3 (x := (60, .inr (.inr (.inr (.inr (fun i => some (ad (147 + 4 * i)))))))) (by rw [pt_W_get (by decide), pt_c11]) rfl hv hdg kk
theorem pt_alds (F : pt_F p m c cc nL s args own D cA) (hP : va_P D pt_cl (pt_W cA ad M) H) {i : Int32} (hin : vp_in i 20) (hdg : decode cc pc = .ok (.aaload, 1))
    (kk : W p l e R s m args below meth c H locs cells slots Q (F0 m (pc + 1) ls (.ref (ad (pt_s i)) :: rest))) : W p l e R s m args below meth c H locs cells slots Q (F0 m pc ls (.int i :: .ref (ad 2) :: rest)) :=
  va_aldq (D := D) (f := fun i => some (ad (5 + 3 * i))) F.1.1 F.1.2.1 F.2 hP 2 1 (by rw [pt_W_get (by decide), pt_c9]) rfl hin hdg kk
theorem pt_aldt (F : pt_F p m c cc nL s args own D cA) (hP : va_P D pt_cl (pt_W cA ad M) H) {i : Int32} (hin : vp_in i 30) (hdg : decode cc pc = .ok (.aaload, 1))
    (kk : W p l e R s m args below meth c H locs cells slots Q (F0 m (pc + 1) ls (.ref (ad (pt_t i)) :: rest))) : W p l e R s m args below meth c H locs cells slots Q (F0 m pc ls (.int i :: .ref (ad 3) :: rest)) :=
  va_aldq (D := D) (f := fun i => some (ad (65 + 2 * i))) F.1.1 F.1.2.1 F.2 hP 3 2 (by rw [pt_W_get (by decide), pt_c10]) rfl hin hdg kk
theorem pt_aldq (F : pt_F p m c cc nL s args own D cA) (hP : va_P D pt_cl (pt_W cA ad M) H) {i : Int32} (hin : vp_in i 60) (hdg : decode cc pc = .ok (.aaload, 1))
    (kk : W p l e R s m args below meth c H locs cells slots Q (F0 m (pc + 1) ls (.ref (ad (pt_q i)) :: rest))) : W p l e R s m args below meth c H locs cells slots Q (F0 m pc ls (.int i :: .ref (ad 143) :: rest)) :=
  va_aldq (D := D) (f := fun i => some (ad (147 + 4 * i))) F.1.1 F.1.2.1 F.2 hP 143 3 (by rw [pt_W_get (by decide), pt_c11]) rfl hin hdg kk
theorem pt_cpy (F : pt_F p m c cc nL s args own D cA) (hP : va_P D pt_cl (pt_W cA ad M) H) (hD : ∀ M, va_D A (pt_W cA ad M)) (hS : va_S A H0 H locs) (hsz : ls.size = nL) {index i N : Nat} (h1 : Cond.methodLink own index arraycopyName ∈ lw_all) (h2 : Cond.native arraycopyName ∈ lw_all) (h3 : Cond.static arraycopyName ∈ lw_all) (h4 : Cond.initialized "java/lang/System" ∈ lw_all) (hi : pt_kd i = 8 ∧ pt_len i = N) (hk : pt_kd k = 8 ∧ pt_len k = N) {n : Int32} (hn : ¬ n < 0) (hN : n.toNatClampNeg = N)
    (hframes : 1 ≤ R.frames) (hlocals : (rest.map fun v => v.category).sum + (nativeFrameWords "java/lang/System" "arraycopy" 5 + 11) ≤ R.locals) (hdg : decode cc pc = .ok (.invokestatic index, 3))
    (kk : ∀ (M1 : pt_M) (H1 : Heap) (locs1 : List Loc), M1 = pt_cp M k i N → va_P D pt_cl (pt_W cA ad M1) H1 → va_S A H0 H1 locs1 → W p l e R s m args below meth c H1 locs1 cells slots Q (F0 m (pc + 3) ls rest)) : W p l e R s m args below meth c H locs cells slots Q (F0 m pc ls (.int n :: .int 0 :: .ref (ad k) :: .int 0 :: .ref (ad i) :: rest)) := by
  have hz : (0 : Int32).toNatClampNeg = 0 := by decide
  refine va_copyi (D := D) F.1.1 F.1.2.1 (F.1.2.2.1.trans hsz.symm) F.1.2.2.2.1 (F.1.2.2.2.2 _ h1) (F.1.2.2.2.2 _ h2) (F.1.2.2.2.2 _ h3) (F.1.2.2.2.2 _ h4) F.2 hP (hD M) hS i k 0 0 (ty := .int) (by rw [pt_W_get (pt_l8 hi.1), pt_c8 _ hi]) (by rw [pt_W_get (pt_l8 hk.1), pt_c8 _ hk]) rfl rfl rfl (by decide) (by decide) hn (by rw [hz, hN]; omega) (by rw [hz, hN]; omega) (fun _ _ => rfl) hframes hlocals hdg (fun H1 locs1 g1 _ g3 => ?_)
  rw [hz, hN, pt_W_upd (M1 := pt_cp M k i N) (pt_l8 hk.1) (by rw [pt_cp_k]; exact pt_c8 _ hk) (fun a h => pt_cp_o h)] at g1
  exact kk _ H1 locs1 rfl g1 g3
-- calls
theorem pt_B0 (F : pt_F p m c cc nL s args own D cA) {y : MethodName} {bytes : ByteArray} {maxL index n : Nat} {ret : Option FieldType} {rm : Room} (h1 : Cond.code y bytes maxL ret ∈ lw_all) (h2 : Cond.methodLink own index y ∈ lw_all) (h5 : Cond.initialized y.cls ∈ lw_all) (hd : y.cls ≠ "java/lang/invoke/MethodHandle" ∧ y.cls ≠ "java/lang/invoke/VarHandle" ∧ (parseMethodDescriptor y.desc).map (fun d => d.parameters.length) = some n) (hrm : rm.cells = 0 ∧ rm.slots = 0 ∧ rm.frames + 1 ≤ R.frames ∧ 8 + (maxL + 11) + rm.locals ≤ R.locals) :
    CallB R s args own index y bytes maxL ret (Cond.code y bytes maxL ret :: lw_all) rm 0 0 n := by
  have hts := F.1.2.2.2.2
  refine ⟨hrm.1, hrm.2.1, hrm.2.2.1, hrm.2.2.2, ?_, List.mem_cons_self, hts _ h1, hts _ h5, ⟨hd.1, hd.2.1⟩, fun sig h => ?_, hts _ h2⟩
  · intro w hw a' U hW
    rcases List.mem_cons.mp hw with rfl | hw
    · exact pt_pay hts _ h1 a' U hW
    · exact pt_pay hts _ hw a' U hW
  · have h6 := hd.2.2
    rw [h] at h6
    exact (Option.some.inj h6).symm
theorem pt_pre (F : pt_F p m c cc nL s args own D cA) (hP : va_P D pt_cl (pt_W cA ad M) H) {As : List Value} (U : State) (hU : U.heap = H) (hW : s.WarmedH U.vm) : va_Pc As (pt_P D cA ad H.size M) As.toArray U := ⟨rfl, by rw [hU], by rw [hU]; exact hP, va_K.moved hW.alike F.2⟩
theorem pt_runV (F : pt_F p m c cc nL s args own D cA) (hP : va_P D pt_cl (pt_W cA ad M) H) {ci : Nat} {fs As : List Value} (hc : pt_cel cA ad k (M k) = .inr (ci, fs)) (hk : k < 387) {C : String} {T : u_T} {N : Nat} (hcl : pt_cl[ci]? = some (C, T, N)) {y : MethodName} {bytes : ByteArray} {maxL index n : Nat} {ret : Option FieldType} {rm : Room} {Qc : Array Value → State → Outcome → State → Prop} {free : Addr → Prop}
    (hM : Met l y (Cond.code y bytes maxL ret :: lw_all) rm (va_Pc (.ref (ad k) :: As) (pt_P D cA ad H.size M)) Qc 0 0 free) (h1 : Cond.code y bytes maxL ret ∈ lw_all) (h2 : Cond.methodLink own index y ∈ lw_all) (h5 : Cond.initialized y.cls ∈ lw_all) (h3 : Cond.instanceMethod y ∈ lw_all) (h4 : Cond.selects C y y ∈ lw_all) (hd : y.cls ≠ "java/lang/invoke/MethodHandle" ∧ y.cls ≠ "java/lang/invoke/VarHandle" ∧ (parseMethodDescriptor y.desc).map (fun d => d.parameters.length) = some n) (hrm : rm.cells = 0 ∧ rm.slots = 0 ∧ rm.frames + 1 ≤ R.frames ∧ 8 + (maxL + 11) + rm.locals ≤ R.locals)
    (hn : As.length = n) (hsz : ls.size = nL) (hst : st = As.reverse ++ .ref (ad k) :: rest) (hW : (rest.map fun v => v.category).sum ≤ 8) (hdg : decode cc pc = .ok (.invokevirtual index, 3)) (hcs : cells + 0 ≤ R.cells ∧ slots + 0 ≤ R.slots) :
    va_Run p l e R s m args below meth c H locs cells slots 0 0 (F0 m pc ls st) rest (Qc (Value.ref (ad k) :: As).toArray) free :=
  va_runV (C := C) (b := ad k) (As := As) (rest := rest) F.1 hM ⟨pt_B0 F h1 h2 h5 hd hrm, F.1.2.2.2.2 _ h3, F.1.2.2.2.2 _ h4⟩ ⟨pt_blind, va_recv F.2 hP (ci := ci) (q0 := k) hcl (by rw [pt_W_get hk, hc]), pt_pre F hP⟩ rfl hn hsz hst (lv_room hW) hdg hcs
theorem pt_runS (F : pt_F p m c cc nL s args own D cA) (hP : va_P D pt_cl (pt_W cA ad M) H) {As : List Value} {y : MethodName} {bytes : ByteArray} {maxL index n : Nat} {ret : Option FieldType} {rm : Room} {Qc : Array Value → State → Outcome → State → Prop} {free : Addr → Prop}
    (hM : Met l y (Cond.code y bytes maxL ret :: lw_all) rm (va_Pc As (pt_P D cA ad H.size M)) Qc 0 0 free) (h1 : Cond.code y bytes maxL ret ∈ lw_all) (h2 : Cond.methodLink own index y ∈ lw_all) (h5 : Cond.initialized y.cls ∈ lw_all) (h3 : Cond.static y ∈ lw_all) (hd : y.cls ≠ "java/lang/invoke/MethodHandle" ∧ y.cls ≠ "java/lang/invoke/VarHandle" ∧ (parseMethodDescriptor y.desc).map (fun d => d.parameters.length) = some n) (hrm : rm.cells = 0 ∧ rm.slots = 0 ∧ rm.frames + 1 ≤ R.frames ∧ 8 + (maxL + 11) + rm.locals ≤ R.locals)
    (hn : As.length = n) (hsz : ls.size = nL) (hst : st = As.reverse ++ rest) (hW : (rest.map fun v => v.category).sum ≤ 8) (hdg : decode cc pc = .ok (.invokestatic index, 3)) (hcs : cells + 0 ≤ R.cells ∧ slots + 0 ≤ R.slots) :
    va_Run p l e R s m args below meth c H locs cells slots 0 0 (F0 m pc ls st) rest (Qc As.toArray) free :=
  va_runS (As := As) (rest := rest) F.1 hM ⟨pt_B0 F h1 h2 h5 hd hrm, F.1.2.2.2.2 _ h3⟩ ⟨pt_blind, pt_pre F hP⟩ rfl hn hsz hst (lv_room hW) hdg hcs
theorem pt_runSN (F : pt_F p m c cc nL s args own D cA) (hP : va_P D pt_cl (pt_W cA ad M) H) {As : List Value} {y : MethodName} {bytes : ByteArray} {maxL index n : Nat} {ret : Option FieldType} {rm : Room} {Qc : Array Value → State → Outcome → State → Prop} {free : Addr → Prop} {host : String}
    (hM : Met l y (Cond.code y bytes maxL ret :: lw_all) rm (va_Pc As (pt_P D cA ad H.size M)) Qc 0 0 free) (h1 : Cond.code y bytes maxL ret ∈ lw_all) (h2 : Cond.methodLinkNest own index y host ∈ lw_all) (h5 : Cond.initialized y.cls ∈ lw_all) (h3 : Cond.static y ∈ lw_all) (hd : y.cls ≠ "java/lang/invoke/MethodHandle" ∧ y.cls ≠ "java/lang/invoke/VarHandle" ∧ (parseMethodDescriptor y.desc).map (fun d => d.parameters.length) = some n) (hrm : rm.cells = 0 ∧ rm.slots = 0 ∧ rm.frames + 1 ≤ R.frames ∧ 8 + (maxL + 11) + rm.locals ≤ R.locals)
    (hn : As.length = n) (hsz : ls.size = nL) (hst : st = As.reverse ++ rest) (hW : (rest.map fun v => v.category).sum ≤ 8) (hdg : decode cc pc = .ok (.invokestatic index, 3)) (hcs : cells + 0 ≤ R.cells ∧ slots + 0 ≤ R.slots) :
    va_Run p l e R s m args below meth c H locs cells slots 0 0 (F0 m pc ls st) rest (Qc As.toArray) free := by
  have hts := F.1.2.2.2.2
  refine va_runSN (As := As) (rest := rest) F.1 hM ⟨⟨⟨hrm.1, hrm.2.1, hrm.2.2.1, hrm.2.2.2, ?_, List.mem_cons_self⟩, hts _ h1, hts _ h5, ⟨hd.1, hd.2.1⟩, fun sig h => ?_, hts _ h2⟩, hts _ h3, trivial⟩ ⟨pt_blind, pt_pre F hP⟩ rfl hn hsz hst (lv_room hW) hdg hcs
  · intro w hw a' U hW
    rcases List.mem_cons.mp hw with rfl | hw
    · exact pt_pay hts _ h1 a' U hW
    · exact pt_pay hts _ hw a' U hW
  · have h6 := hd.2.2
    rw [h] at h6
    exact (Option.some.inj h6).symm
theorem pt_frA (hS : va_S A H0 H locs) (hA : ∀ q, pt_fr ad H0.size q → A q) : (∀ q, q < H.size → pt_fr ad H.size q → A q) ∧ (∀ q, pt_fr ad H.size q → A q) := by
  have h2 : ∀ q, pt_fr ad H.size q → A q := by
    intro q h
    rcases h with h | h
    · exact hA q (Or.inl h)
    · exact hA q (Or.inr (Nat.le_trans hS.1 h))
  exact ⟨fun q _ h => h2 q h, h2⟩
variable {a : Array Value}
theorem pt_calli {Qi : Int32 → pt_M → Prop} (hr : va_Run p l e R s m args below meth c H locs cells slots 0 0 (F0 m pc ls st) rest (va_Qi Qi (pt_B D cA ad) (pt_fr ad H.size) a) (pt_fr ad H.size)) (hS : va_S A H0 H locs) (hA : ∀ q, pt_fr ad H0.size q → A q)
    (kk : ∀ (r : Int32) (M1 : pt_M) (H1 : Heap) (locs1 : List Loc), Qi r M1 → va_P D pt_cl (pt_W cA ad M1) H1 → va_S A H0 H1 locs1 → H.size ≤ H1.size → (∀ q : Nat, q < H.size → ¬ pt_fr ad H.size q → H1[q]? = H[q]?) → W p l e R s m args below meth c H1 locs1 cells slots Q (F0 m (pc + 3) ls (.int r :: rest))) : W p l e R s m args below meth c H locs cells slots Q (F0 m pc ls st) :=
  va_calli hr hS (pt_frA hS hA).1 (pt_frA hS hA).2 (fun r M1 t H1 locs1 ht _ hq hB hz ho hS1 => kk r M1 H1 locs1 hq (by rw [← ht]; exact hB) hS1 hz ho)
theorem pt_calll {Qi : Int64 → pt_M → Prop} (hr : va_Run p l e R s m args below meth c H locs cells slots 0 0 (F0 m pc ls st) rest (va_Ql Qi (pt_B D cA ad) (pt_fr ad H.size) a) (pt_fr ad H.size)) (hS : va_S A H0 H locs) (hA : ∀ q, pt_fr ad H0.size q → A q)
    (kk : ∀ (r : Int64) (M1 : pt_M) (H1 : Heap) (locs1 : List Loc), Qi r M1 → va_P D pt_cl (pt_W cA ad M1) H1 → va_S A H0 H1 locs1 → H.size ≤ H1.size → (∀ q : Nat, q < H.size → ¬ pt_fr ad H.size q → H1[q]? = H[q]?) → W p l e R s m args below meth c H1 locs1 cells slots Q (F0 m (pc + 3) ls (.long r :: rest))) : W p l e R s m args below meth c H locs cells slots Q (F0 m pc ls st) :=
  va_calll hr hS (pt_frA hS hA).1 (pt_frA hS hA).2 (fun r M1 t H1 locs1 ht _ hq hB hz ho hS1 => kk r M1 H1 locs1 hq (by rw [← ht]; exact hB) hS1 hz ho)
theorem pt_calld {Qi : UInt64 → pt_M → Prop} (hr : va_Run p l e R s m args below meth c H locs cells slots 0 0 (F0 m pc ls st) rest (va_Qd Qi (pt_B D cA ad) (pt_fr ad H.size) a) (pt_fr ad H.size)) (hS : va_S A H0 H locs) (hA : ∀ q, pt_fr ad H0.size q → A q)
    (kk : ∀ (r : UInt64) (M1 : pt_M) (H1 : Heap) (locs1 : List Loc), Qi r M1 → va_P D pt_cl (pt_W cA ad M1) H1 → va_S A H0 H1 locs1 → H.size ≤ H1.size → (∀ q : Nat, q < H.size → ¬ pt_fr ad H.size q → H1[q]? = H[q]?) → W p l e R s m args below meth c H1 locs1 cells slots Q (F0 m (pc + 3) ls (.double r :: rest))) : W p l e R s m args below meth c H locs cells slots Q (F0 m pc ls st) :=
  va_calld hr hS (pt_frA hS hA).1 (pt_frA hS hA).2 (fun r M1 t H1 locs1 ht _ hq hB hz ho hS1 => kk r M1 H1 locs1 hq (by rw [← ht]; exact hB) hS1 hz ho)
theorem pt_callv {Qi : pt_M → Prop} (hr : va_Run p l e R s m args below meth c H locs cells slots 0 0 (F0 m pc ls st) rest (va_Qv Qi (pt_B D cA ad) (pt_fr ad H.size) a) (pt_fr ad H.size)) (hS : va_S A H0 H locs) (hA : ∀ q, pt_fr ad H0.size q → A q)
    (kk : ∀ (M1 : pt_M) (H1 : Heap) (locs1 : List Loc), Qi M1 → va_P D pt_cl (pt_W cA ad M1) H1 → va_S A H0 H1 locs1 → H.size ≤ H1.size → (∀ q : Nat, q < H.size → ¬ pt_fr ad H.size q → H1[q]? = H[q]?) → W p l e R s m args below meth c H1 locs1 cells slots Q (F0 m (pc + 3) ls rest)) : W p l e R s m args below meth c H locs cells slots Q (F0 m pc ls st) :=
  va_callv hr hS (pt_frA hS hA).1 (pt_frA hS hA).2 (fun M1 t H1 locs1 ht _ hq hB hz ho hS1 => kk M1 H1 locs1 hq (by rw [← ht]; exact hB) hS1 hz ho)
end PTR
set_option maxRecDepth 100000 in
theorem inX0 : ∀ w ∈ u_ws RX0 TX0 3, w ∈ lw_all := by decide +kernel
set_option maxRecDepth 100000 in
theorem inX1 : ∀ w ∈ u_ws RX1 TX1 7, w ∈ lw_all := by decide +kernel
set_option maxRecDepth 100000 in
theorem inX2 : ∀ w ∈ u_ws RX2 TX2 9, w ∈ lw_all := by decide +kernel
set_option maxRecDepth 100000 in
theorem inX3 : ∀ w ∈ u_ws RX3 TX3 11, w ∈ lw_all := by decide +kernel
set_option maxRecDepth 100000 in
theorem inX4 : ∀ w ∈ u_ws RX4 TX4 4, w ∈ lw_all := by decide +kernel
set_option maxRecDepth 100000 in
theorem inX5 : ∀ w ∈ u_ws RX5 TX5 9, w ∈ lw_all := by decide +kernel
set_option maxRecDepth 100000 in
theorem inX6 : ∀ w ∈ u_ws RX6 TX6 9, w ∈ lw_all := by decide +kernel
set_option maxRecDepth 100000 in
theorem inX7 : ∀ w ∈ u_ws RX7 TX7 5, w ∈ lw_all := by decide +kernel
end
section
-- the places of the words
theorem kw_0 : (Jvm.Cond.selects "PuppetTheatre" ({ cls := "PuppetTheatre", name := "checkResting", desc := "()V" } : Jvm.MethodName) ({ cls := "PuppetTheatre", name := "checkResting", desc := "()V" } : Jvm.MethodName)) ∈ lw_all := pt_all (List.mem_of_getElem? (i := 0) (by decide +kernel)) (by decide +kernel)
theorem kw_2 : (Jvm.Cond.selects "PuppetTheatre$Play" ({ cls := "PuppetTheatre$Play", name := "act", desc := "(LPuppetTheatre$Action;)V" } : Jvm.MethodName) ({ cls := "PuppetTheatre$Play", name := "act", desc := "(LPuppetTheatre$Action;)V" } : Jvm.MethodName)) ∈ lw_all := pt_all (List.mem_of_getElem? (i := 2) (by decide +kernel)) (by decide +kernel)
theorem kw_3 : (Jvm.Cond.selects "PuppetTheatre$Play" ({ cls := "PuppetTheatre$Play", name := "raise", desc := "(I)V" } : Jvm.MethodName) ({ cls := "PuppetTheatre$Play", name := "raise", desc := "(I)V" } : Jvm.MethodName)) ∈ lw_all := pt_all (List.mem_of_getElem? (i := 3) (by decide +kernel)) (by decide +kernel)
theorem kw_4 : (Jvm.Cond.selects "PuppetTheatre$Play" ({ cls := "PuppetTheatre$Play", name := "loseQueue", desc := "()V" } : Jvm.MethodName) ({ cls := "PuppetTheatre$Play", name := "loseQueue", desc := "()V" } : Jvm.MethodName)) ∈ lw_all := pt_all (List.mem_of_getElem? (i := 4) (by decide +kernel)) (by decide +kernel)
theorem kw_5 : (Jvm.Cond.selects "PuppetTheatre$Play" ({ cls := "PuppetTheatre$Play", name := "growOlder", desc := "()V" } : Jvm.MethodName) ({ cls := "PuppetTheatre$Play", name := "growOlder", desc := "()V" } : Jvm.MethodName)) ∈ lw_all := pt_all (List.mem_of_getElem? (i := 5) (by decide +kernel)) (by decide +kernel)
theorem kw_6 : (Jvm.Cond.selects "PuppetTheatre$Play" ({ cls := "PuppetTheatre$Play", name := "step", desc := "(I)I" } : Jvm.MethodName) ({ cls := "PuppetTheatre$Play", name := "step", desc := "(I)I" } : Jvm.MethodName)) ∈ lw_all := pt_all (List.mem_of_getElem? (i := 6) (by decide +kernel)) (by decide +kernel)
theorem kw_7 : (Jvm.Cond.selects "PuppetTheatre$Play" ({ cls := "PuppetTheatre$Play", name := "isOpen", desc := "(LPuppetTheatre$Transition;I)Z" } : Jvm.MethodName) ({ cls := "PuppetTheatre$Play", name := "isOpen", desc := "(LPuppetTheatre$Transition;I)Z" } : Jvm.MethodName)) ∈ lw_all := pt_all (List.mem_of_getElem? (i := 7) (by decide +kernel)) (by decide +kernel)
theorem kw_8 : (Jvm.Cond.selects "PuppetTheatre$Play" ({ cls := "PuppetTheatre$Play", name := "choose", desc := "(I)V" } : Jvm.MethodName) ({ cls := "PuppetTheatre$Play", name := "choose", desc := "(I)V" } : Jvm.MethodName)) ∈ lw_all := pt_all (List.mem_of_getElem? (i := 8) (by decide +kernel)) (by decide +kernel)
theorem kw_9 : (Jvm.Cond.selects "PuppetTheatre$Play" ({ cls := "PuppetTheatre$Play", name := "nearestOpen", desc := "(II)I" } : Jvm.MethodName) ({ cls := "PuppetTheatre$Play", name := "nearestOpen", desc := "(II)I" } : Jvm.MethodName)) ∈ lw_all := pt_all (List.mem_of_getElem? (i := 9) (by decide +kernel)) (by decide +kernel)
theorem kw_10 : (Jvm.Cond.selects "PuppetTheatre$Play" ({ cls := "PuppetTheatre$Play", name := "takeIfFree", desc := "(I)V" } : Jvm.MethodName) ({ cls := "PuppetTheatre$Play", name := "takeIfFree", desc := "(I)V" } : Jvm.MethodName)) ∈ lw_all := pt_all (List.mem_of_getElem? (i := 10) (by decide +kernel)) (by decide +kernel)
theorem kw_11 : (Jvm.Cond.selects "PuppetTheatre$Play" ({ cls := "PuppetTheatre$Play", name := "leftBy", desc := "(LPuppetTheatre$Transition;)I" } : Jvm.MethodName) ({ cls := "PuppetTheatre$Play", name := "leftBy", desc := "(LPuppetTheatre$Transition;)I" } : Jvm.MethodName)) ∈ lw_all := pt_all (List.mem_of_getElem? (i := 11) (by decide +kernel)) (by decide +kernel)
theorem kw_12 : (Jvm.Cond.selects "PuppetTheatre$Play" ({ cls := "PuppetTheatre$Play", name := "makeRecords", desc := "(I)V" } : Jvm.MethodName) ({ cls := "PuppetTheatre$Play", name := "makeRecords", desc := "(I)V" } : Jvm.MethodName)) ∈ lw_all := pt_all (List.mem_of_getElem? (i := 12) (by decide +kernel)) (by decide +kernel)
theorem kw_13 : (Jvm.Cond.selects "PuppetTheatre$Play" ({ cls := "PuppetTheatre$Play", name := "leave", desc := "(I)V" } : Jvm.MethodName) ({ cls := "PuppetTheatre$Play", name := "leave", desc := "(I)V" } : Jvm.MethodName)) ∈ lw_all := pt_all (List.mem_of_getElem? (i := 13) (by decide +kernel)) (by decide +kernel)
theorem kw_14 : (Jvm.Cond.selects "PuppetTheatre$Play" ({ cls := "PuppetTheatre$Play", name := "targetsOf", desc := "(LPuppetTheatre$Transition;)I" } : Jvm.MethodName) ({ cls := "PuppetTheatre$Play", name := "targetsOf", desc := "(LPuppetTheatre$Transition;)I" } : Jvm.MethodName)) ∈ lw_all := pt_all (List.mem_of_getElem? (i := 14) (by decide +kernel)) (by decide +kernel)
theorem kw_15 : (Jvm.Cond.selects "PuppetTheatre$Chart" ({ cls := "PuppetTheatre$Chart", name := "partsAside", desc := "(II)I" } : Jvm.MethodName) ({ cls := "PuppetTheatre$Chart", name := "partsAside", desc := "(II)I" } : Jvm.MethodName)) ∈ lw_all := pt_all (List.mem_of_getElem? (i := 15) (by decide +kernel)) (by decide +kernel)
theorem kw_16 : (Jvm.Cond.selects "PuppetTheatre$Play" ({ cls := "PuppetTheatre$Play", name := "nextEvent", desc := "()I" } : Jvm.MethodName) ({ cls := "PuppetTheatre$Play", name := "nextEvent", desc := "()I" } : Jvm.MethodName)) ∈ lw_all := pt_all (List.mem_of_getElem? (i := 16) (by decide +kernel)) (by decide +kernel)
theorem kw_17 : (Jvm.Cond.selects "PuppetTheatre" ({ cls := "PuppetTheatre", name := "checkRunning", desc := "()V" } : Jvm.MethodName) ({ cls := "PuppetTheatre", name := "checkRunning", desc := "()V" } : Jvm.MethodName)) ∈ lw_all := pt_all (List.mem_of_getElem? (i := 17) (by decide +kernel)) (by decide +kernel)
theorem kw_18 : (Jvm.Cond.selects "PuppetTheatre" ({ cls := "PuppetTheatre", name := "checkState", desc := "(I)V" } : Jvm.MethodName) ({ cls := "PuppetTheatre", name := "checkState", desc := "(I)V" } : Jvm.MethodName)) ∈ lw_all := pt_all (List.mem_of_getElem? (i := 18) (by decide +kernel)) (by decide +kernel)
theorem kw_19 : (Jvm.Cond.selects "PuppetTheatre" ({ cls := "PuppetTheatre", name := "checkTransition", desc := "(I)V" } : Jvm.MethodName) ({ cls := "PuppetTheatre", name := "checkTransition", desc := "(I)V" } : Jvm.MethodName)) ∈ lw_all := pt_all (List.mem_of_getElem? (i := 19) (by decide +kernel)) (by decide +kernel)
theorem kw_20 : (Jvm.Cond.selects "PuppetTheatre$Look" ({ cls := "PuppetTheatre$Look", name := "isReached", desc := "(II)Z" } : Jvm.MethodName) ({ cls := "PuppetTheatre$Look", name := "isReached", desc := "(II)Z" } : Jvm.MethodName)) ∈ lw_all := pt_all (List.mem_of_getElem? (i := 20) (by decide +kernel)) (by decide +kernel)
theorem kw_21 : (Jvm.Cond.selects "PuppetTheatre$Look" ({ cls := "PuppetTheatre$Look", name := "writeRow", desc := "(II)V" } : Jvm.MethodName) ({ cls := "PuppetTheatre$Look", name := "writeRow", desc := "(II)V" } : Jvm.MethodName)) ∈ lw_all := pt_all (List.mem_of_getElem? (i := 21) (by decide +kernel)) (by decide +kernel)
theorem kw_22 : (Jvm.Cond.selects "PuppetTheatre$Look" ({ cls := "PuppetTheatre$Look", name := "keepIfNew", desc := "(II)V" } : Jvm.MethodName) ({ cls := "PuppetTheatre$Look", name := "keepIfNew", desc := "(II)V" } : Jvm.MethodName)) ∈ lw_all := pt_all (List.mem_of_getElem? (i := 22) (by decide +kernel)) (by decide +kernel)
theorem kw_23 : (Jvm.Cond.selects "PuppetTheatre" ({ cls := "PuppetTheatre", name := "digestOfStates", desc := "(J)J" } : Jvm.MethodName) ({ cls := "PuppetTheatre", name := "digestOfStates", desc := "(J)J" } : Jvm.MethodName)) ∈ lw_all := pt_all (List.mem_of_getElem? (i := 23) (by decide +kernel)) (by decide +kernel)
theorem kw_24 : (Jvm.Cond.selects "PuppetTheatre$Chart" ({ cls := "PuppetTheatre$Chart", name := "scopeOf", desc := "(II)I" } : Jvm.MethodName) ({ cls := "PuppetTheatre$Chart", name := "scopeOf", desc := "(II)I" } : Jvm.MethodName)) ∈ lw_all := pt_all (List.mem_of_getElem? (i := 24) (by decide +kernel)) (by decide +kernel)
theorem kw_26 : (Jvm.Cond.initialized "PuppetTheatre") ∈ lw_all := pt_all (List.mem_of_getElem? (i := 26) (by decide +kernel)) (by decide +kernel)
theorem kw_27 : (Jvm.Cond.initialized "PuppetTheatre$Chart") ∈ lw_all := pt_all (List.mem_of_getElem? (i := 27) (by decide +kernel)) (by decide +kernel)
theorem kw_28 : (Jvm.Cond.initialized "PuppetTheatre$State") ∈ lw_all := pt_all (List.mem_of_getElem? (i := 28) (by decide +kernel)) (by decide +kernel)
theorem kw_29 : (Jvm.Cond.initialized "PuppetTheatre$Action") ∈ lw_all := pt_all (List.mem_of_getElem? (i := 29) (by decide +kernel)) (by decide +kernel)
theorem kw_30 : (Jvm.Cond.initialized "PuppetTheatre$Transition") ∈ lw_all := pt_all (List.mem_of_getElem? (i := 30) (by decide +kernel)) (by decide +kernel)
theorem kw_31 : (Jvm.Cond.initialized "PuppetTheatre$Play") ∈ lw_all := pt_all (List.mem_of_getElem? (i := 31) (by decide +kernel)) (by decide +kernel)
theorem kw_32 : (Jvm.Cond.initialized "PuppetTheatre$Situation") ∈ lw_all := pt_all (List.mem_of_getElem? (i := 32) (by decide +kernel)) (by decide +kernel)
theorem kw_33 : (Jvm.Cond.initialized "PuppetTheatre$Look") ∈ lw_all := pt_all (List.mem_of_getElem? (i := 33) (by decide +kernel)) (by decide +kernel)
theorem kw_40 : (Jvm.Cond.initialized "java/lang/Math") ∈ lw_all := pt_all (List.mem_of_getElem? (i := 40) (by decide +kernel)) (by decide +kernel)
theorem kw_41 : (Jvm.Cond.initialized "java/lang/Integer") ∈ lw_all := pt_all (List.mem_of_getElem? (i := 41) (by decide +kernel)) (by decide +kernel)
theorem kw_42 : (Jvm.Cond.initialized "java/lang/System") ∈ lw_all := pt_all (List.mem_of_getElem? (i := 42) (by decide +kernel)) (by decide +kernel)
theorem kw_61 : (Jvm.Cond.methodLinkNest "PuppetTheatre$Chart" (31 : Nat) ({ cls := "PuppetTheatre", name := "setOf", desc := "(I)I" } : Jvm.MethodName) "PuppetTheatre") ∈ lw_all := pt_all (List.mem_of_getElem? (i := 61) (by decide +kernel)) (by decide +kernel)
theorem kw_62 : (Jvm.Cond.static ({ cls := "PuppetTheatre", name := "setOf", desc := "(I)I" } : Jvm.MethodName)) ∈ lw_all := pt_all (List.mem_of_getElem? (i := 62) (by decide +kernel)) (by decide +kernel)
theorem kw_63 : (Jvm.Cond.code ({ cls := "PuppetTheatre", name := "setOf", desc := "(I)I" } : Jvm.MethodName) prog_1_method_48_code (1 : Nat) (Option.some Jvm.ClassFile.FieldType.int)) ∈ lw_all := pt_all (List.mem_of_getElem? (i := 63) (by decide +kernel)) (by decide +kernel)
theorem kw_75 : (Jvm.Cond.fieldLink "PuppetTheatre$Action" (7 : Nat) "PuppetTheatre$Action" "code" "I") ∈ lw_all := pt_all (List.mem_of_getElem? (i := 75) (by decide +kernel)) (by decide +kernel)
theorem kw_76 : (Jvm.Cond.fieldLink "PuppetTheatre$Play" (222 : Nat) "PuppetTheatre$Action" "code" "I") ∈ lw_all := pt_all (List.mem_of_getElem? (i := 76) (by decide +kernel)) (by decide +kernel)
theorem kw_77 : (Jvm.Cond.fieldLink "PuppetTheatre$Action" (13 : Nat) "PuppetTheatre$Action" "what" "I") ∈ lw_all := pt_all (List.mem_of_getElem? (i := 77) (by decide +kernel)) (by decide +kernel)
theorem kw_78 : (Jvm.Cond.fieldLink "PuppetTheatre$Play" (227 : Nat) "PuppetTheatre$Action" "what" "I") ∈ lw_all := pt_all (List.mem_of_getElem? (i := 78) (by decide +kernel)) (by decide +kernel)
theorem kw_79 : (Jvm.Cond.fieldLink "PuppetTheatre$Action" (16 : Nat) "PuppetTheatre$Action" "n" "I") ∈ lw_all := pt_all (List.mem_of_getElem? (i := 79) (by decide +kernel)) (by decide +kernel)
theorem kw_80 : (Jvm.Cond.fieldLink "PuppetTheatre$Play" (230 : Nat) "PuppetTheatre$Action" "n" "I") ∈ lw_all := pt_all (List.mem_of_getElem? (i := 80) (by decide +kernel)) (by decide +kernel)
theorem kw_90 : (Jvm.Cond.fieldLink "PuppetTheatre" (102 : Nat) "PuppetTheatre$State" "entering" "LPuppetTheatre$Action;") ∈ lw_all := pt_all (List.mem_of_getElem? (i := 90) (by decide +kernel)) (by decide +kernel)
theorem kw_91 : (Jvm.Cond.fieldLink "PuppetTheatre$Play" (216 : Nat) "PuppetTheatre$State" "entering" "LPuppetTheatre$Action;") ∈ lw_all := pt_all (List.mem_of_getElem? (i := 91) (by decide +kernel)) (by decide +kernel)
theorem kw_93 : (Jvm.Cond.fieldLink "PuppetTheatre" (98 : Nat) "PuppetTheatre$State" "leaving" "LPuppetTheatre$Action;") ∈ lw_all := pt_all (List.mem_of_getElem? (i := 93) (by decide +kernel)) (by decide +kernel)
theorem kw_94 : (Jvm.Cond.fieldLink "PuppetTheatre$Play" (213 : Nat) "PuppetTheatre$State" "leaving" "LPuppetTheatre$Action;") ∈ lw_all := pt_all (List.mem_of_getElem? (i := 94) (by decide +kernel)) (by decide +kernel)
theorem kw_95 : (Jvm.Cond.fieldLink "PuppetTheatre$State" (21 : Nat) "PuppetTheatre$State" "kind" "I") ∈ lw_all := pt_all (List.mem_of_getElem? (i := 95) (by decide +kernel)) (by decide +kernel)
theorem kw_96 : (Jvm.Cond.fieldLink "PuppetTheatre$Chart" (40 : Nat) "PuppetTheatre$State" "kind" "I") ∈ lw_all := pt_all (List.mem_of_getElem? (i := 96) (by decide +kernel)) (by decide +kernel)
theorem kw_97 : (Jvm.Cond.fieldLink "PuppetTheatre" (69 : Nat) "PuppetTheatre$State" "kind" "I") ∈ lw_all := pt_all (List.mem_of_getElem? (i := 97) (by decide +kernel)) (by decide +kernel)
theorem kw_98 : (Jvm.Cond.fieldLink "PuppetTheatre$Play" (207 : Nat) "PuppetTheatre$State" "kind" "I") ∈ lw_all := pt_all (List.mem_of_getElem? (i := 98) (by decide +kernel)) (by decide +kernel)
theorem kw_100 : (Jvm.Cond.fieldLink "PuppetTheatre$Chart" (43 : Nat) "PuppetTheatre$State" "parent" "I") ∈ lw_all := pt_all (List.mem_of_getElem? (i := 100) (by decide +kernel)) (by decide +kernel)
theorem kw_101 : (Jvm.Cond.fieldLink "PuppetTheatre" (184 : Nat) "PuppetTheatre$State" "parent" "I") ∈ lw_all := pt_all (List.mem_of_getElem? (i := 101) (by decide +kernel)) (by decide +kernel)
theorem kw_102 : (Jvm.Cond.fieldLink "PuppetTheatre$Play" (204 : Nat) "PuppetTheatre$State" "parent" "I") ∈ lw_all := pt_all (List.mem_of_getElem? (i := 102) (by decide +kernel)) (by decide +kernel)
theorem kw_103 : (Jvm.Cond.fieldLink "PuppetTheatre$State" (28 : Nat) "PuppetTheatre$State" "first" "I") ∈ lw_all := pt_all (List.mem_of_getElem? (i := 103) (by decide +kernel)) (by decide +kernel)
theorem kw_104 : (Jvm.Cond.fieldLink "PuppetTheatre" (86 : Nat) "PuppetTheatre$State" "first" "I") ∈ lw_all := pt_all (List.mem_of_getElem? (i := 104) (by decide +kernel)) (by decide +kernel)
theorem kw_105 : (Jvm.Cond.fieldLink "PuppetTheatre$Play" (54 : Nat) "PuppetTheatre$State" "parts" "I") ∈ lw_all := pt_all (List.mem_of_getElem? (i := 105) (by decide +kernel)) (by decide +kernel)
theorem kw_106 : (Jvm.Cond.fieldLink "PuppetTheatre$State" (38 : Nat) "PuppetTheatre$State" "parts" "I") ∈ lw_all := pt_all (List.mem_of_getElem? (i := 106) (by decide +kernel)) (by decide +kernel)
theorem kw_107 : (Jvm.Cond.fieldLink "PuppetTheatre$Chart" (101 : Nat) "PuppetTheatre$State" "parts" "I") ∈ lw_all := pt_all (List.mem_of_getElem? (i := 107) (by decide +kernel)) (by decide +kernel)
theorem kw_108 : (Jvm.Cond.fieldLink "PuppetTheatre" (79 : Nat) "PuppetTheatre$State" "parts" "I") ∈ lw_all := pt_all (List.mem_of_getElem? (i := 108) (by decide +kernel)) (by decide +kernel)
theorem kw_109 : (Jvm.Cond.fieldLink "PuppetTheatre$State" (35 : Nat) "PuppetTheatre$State" "filledWith" "I") ∈ lw_all := pt_all (List.mem_of_getElem? (i := 109) (by decide +kernel)) (by decide +kernel)
theorem kw_110 : (Jvm.Cond.fieldLink "PuppetTheatre$Chart" (92 : Nat) "PuppetTheatre$State" "filledWith" "I") ∈ lw_all := pt_all (List.mem_of_getElem? (i := 110) (by decide +kernel)) (by decide +kernel)
theorem kw_111 : (Jvm.Cond.fieldLink "PuppetTheatre$Play" (219 : Nat) "PuppetTheatre$State" "filledWith" "I") ∈ lw_all := pt_all (List.mem_of_getElem? (i := 111) (by decide +kernel)) (by decide +kernel)
theorem kw_112 : (Jvm.Cond.fieldLink "PuppetTheatre$Chart" (46 : Nat) "PuppetTheatre$State" "beneath" "I") ∈ lw_all := pt_all (List.mem_of_getElem? (i := 112) (by decide +kernel)) (by decide +kernel)
theorem kw_113 : (Jvm.Cond.fieldLink "PuppetTheatre$Play" (187 : Nat) "PuppetTheatre$State" "beneath" "I") ∈ lw_all := pt_all (List.mem_of_getElem? (i := 113) (by decide +kernel)) (by decide +kernel)
theorem kw_114 : (Jvm.Cond.fieldLink "PuppetTheatre$Chart" (86 : Nat) "PuppetTheatre$State" "departing" "I") ∈ lw_all := pt_all (List.mem_of_getElem? (i := 114) (by decide +kernel)) (by decide +kernel)
theorem kw_115 : (Jvm.Cond.fieldLink "PuppetTheatre$Play" (190 : Nat) "PuppetTheatre$State" "departing" "I") ∈ lw_all := pt_all (List.mem_of_getElem? (i := 115) (by decide +kernel)) (by decide +kernel)
theorem kw_143 : (Jvm.Cond.fieldLink "PuppetTheatre" (142 : Nat) "PuppetTheatre$Transition" "action" "LPuppetTheatre$Action;") ∈ lw_all := pt_all (List.mem_of_getElem? (i := 143) (by decide +kernel)) (by decide +kernel)
theorem kw_144 : (Jvm.Cond.fieldLink "PuppetTheatre$Play" (120 : Nat) "PuppetTheatre$Transition" "action" "LPuppetTheatre$Action;") ∈ lw_all := pt_all (List.mem_of_getElem? (i := 144) (by decide +kernel)) (by decide +kernel)
theorem kw_145 : (Jvm.Cond.fieldLink "PuppetTheatre$Chart" (67 : Nat) "PuppetTheatre$Transition" "from" "I") ∈ lw_all := pt_all (List.mem_of_getElem? (i := 145) (by decide +kernel)) (by decide +kernel)
theorem kw_146 : (Jvm.Cond.fieldLink "PuppetTheatre$Play" (162 : Nat) "PuppetTheatre$Transition" "from" "I") ∈ lw_all := pt_all (List.mem_of_getElem? (i := 146) (by decide +kernel)) (by decide +kernel)
theorem kw_147 : (Jvm.Cond.fieldLink "PuppetTheatre$Chart" (70 : Nat) "PuppetTheatre$Transition" "trigger" "I") ∈ lw_all := pt_all (List.mem_of_getElem? (i := 147) (by decide +kernel)) (by decide +kernel)
theorem kw_148 : (Jvm.Cond.fieldLink "PuppetTheatre$Play" (172 : Nat) "PuppetTheatre$Transition" "trigger" "I") ∈ lw_all := pt_all (List.mem_of_getElem? (i := 148) (by decide +kernel)) (by decide +kernel)
theorem kw_149 : (Jvm.Cond.fieldLink "PuppetTheatre$Chart" (73 : Nat) "PuppetTheatre$Transition" "n" "I") ∈ lw_all := pt_all (List.mem_of_getElem? (i := 149) (by decide +kernel)) (by decide +kernel)
theorem kw_150 : (Jvm.Cond.fieldLink "PuppetTheatre$Play" (175 : Nat) "PuppetTheatre$Transition" "n" "I") ∈ lw_all := pt_all (List.mem_of_getElem? (i := 150) (by decide +kernel)) (by decide +kernel)
theorem kw_152 : (Jvm.Cond.fieldLink "PuppetTheatre$Chart" (76 : Nat) "PuppetTheatre$Transition" "to" "I") ∈ lw_all := pt_all (List.mem_of_getElem? (i := 152) (by decide +kernel)) (by decide +kernel)
theorem kw_153 : (Jvm.Cond.fieldLink "PuppetTheatre$Play" (130 : Nat) "PuppetTheatre$Transition" "to" "I") ∈ lw_all := pt_all (List.mem_of_getElem? (i := 153) (by decide +kernel)) (by decide +kernel)
theorem kw_155 : (Jvm.Cond.fieldLink "PuppetTheatre$Chart" (83 : Nat) "PuppetTheatre$Transition" "scope" "I") ∈ lw_all := pt_all (List.mem_of_getElem? (i := 155) (by decide +kernel)) (by decide +kernel)
theorem kw_156 : (Jvm.Cond.fieldLink "PuppetTheatre$Play" (136 : Nat) "PuppetTheatre$Transition" "scope" "I") ∈ lw_all := pt_all (List.mem_of_getElem? (i := 156) (by decide +kernel)) (by decide +kernel)
theorem kw_157 : (Jvm.Cond.fieldLink "PuppetTheatre$Transition" (25 : Nat) "PuppetTheatre$Transition" "how" "I") ∈ lw_all := pt_all (List.mem_of_getElem? (i := 157) (by decide +kernel)) (by decide +kernel)
theorem kw_158 : (Jvm.Cond.fieldLink "PuppetTheatre" (131 : Nat) "PuppetTheatre$Transition" "how" "I") ∈ lw_all := pt_all (List.mem_of_getElem? (i := 158) (by decide +kernel)) (by decide +kernel)
theorem kw_159 : (Jvm.Cond.fieldLink "PuppetTheatre$Transition" (28 : Nat) "PuppetTheatre$Transition" "variable" "I") ∈ lw_all := pt_all (List.mem_of_getElem? (i := 159) (by decide +kernel)) (by decide +kernel)
theorem kw_160 : (Jvm.Cond.fieldLink "PuppetTheatre" (136 : Nat) "PuppetTheatre$Transition" "variable" "I") ∈ lw_all := pt_all (List.mem_of_getElem? (i := 160) (by decide +kernel)) (by decide +kernel)
theorem kw_161 : (Jvm.Cond.fieldLink "PuppetTheatre$Transition" (31 : Nat) "PuppetTheatre$Transition" "bound" "I") ∈ lw_all := pt_all (List.mem_of_getElem? (i := 161) (by decide +kernel)) (by decide +kernel)
theorem kw_162 : (Jvm.Cond.fieldLink "PuppetTheatre" (139 : Nat) "PuppetTheatre$Transition" "bound" "I") ∈ lw_all := pt_all (List.mem_of_getElem? (i := 162) (by decide +kernel)) (by decide +kernel)
theorem kw_182 : (Jvm.Cond.fieldLink "PuppetTheatre$Chart" (11 : Nat) "PuppetTheatre$Chart" "states" "[LPuppetTheatre$State;") ∈ lw_all := pt_all (List.mem_of_getElem? (i := 182) (by decide +kernel)) (by decide +kernel)
theorem kw_183 : (Jvm.Cond.fieldLink "PuppetTheatre" (56 : Nat) "PuppetTheatre$Chart" "states" "[LPuppetTheatre$State;") ∈ lw_all := pt_all (List.mem_of_getElem? (i := 183) (by decide +kernel)) (by decide +kernel)
theorem kw_184 : (Jvm.Cond.fieldLink "PuppetTheatre$Play" (48 : Nat) "PuppetTheatre$Chart" "states" "[LPuppetTheatre$State;") ∈ lw_all := pt_all (List.mem_of_getElem? (i := 184) (by decide +kernel)) (by decide +kernel)
theorem kw_185 : (Jvm.Cond.fieldLink "PuppetTheatre$Chart" (19 : Nat) "PuppetTheatre$Chart" "transitions" "[LPuppetTheatre$Transition;") ∈ lw_all := pt_all (List.mem_of_getElem? (i := 185) (by decide +kernel)) (by decide +kernel)
theorem kw_186 : (Jvm.Cond.fieldLink "PuppetTheatre" (127 : Nat) "PuppetTheatre$Chart" "transitions" "[LPuppetTheatre$Transition;") ∈ lw_all := pt_all (List.mem_of_getElem? (i := 186) (by decide +kernel)) (by decide +kernel)
theorem kw_187 : (Jvm.Cond.fieldLink "PuppetTheatre$Play" (106 : Nat) "PuppetTheatre$Chart" "transitions" "[LPuppetTheatre$Transition;") ∈ lw_all := pt_all (List.mem_of_getElem? (i := 187) (by decide +kernel)) (by decide +kernel)
theorem kw_188 : (Jvm.Cond.fieldLink "PuppetTheatre$Chart" (23 : Nat) "PuppetTheatre$Chart" "causedBy" "[I") ∈ lw_all := pt_all (List.mem_of_getElem? (i := 188) (by decide +kernel)) (by decide +kernel)
theorem kw_189 : (Jvm.Cond.fieldLink "PuppetTheatre$Play" (149 : Nat) "PuppetTheatre$Chart" "causedBy" "[I") ∈ lw_all := pt_all (List.mem_of_getElem? (i := 189) (by decide +kernel)) (by decide +kernel)
theorem kw_190 : (Jvm.Cond.fieldLink "PuppetTheatre$Chart" (27 : Nat) "PuppetTheatre$Chart" "stateCount" "I") ∈ lw_all := pt_all (List.mem_of_getElem? (i := 190) (by decide +kernel)) (by decide +kernel)
theorem kw_191 : (Jvm.Cond.fieldLink "PuppetTheatre" (41 : Nat) "PuppetTheatre$Chart" "stateCount" "I") ∈ lw_all := pt_all (List.mem_of_getElem? (i := 191) (by decide +kernel)) (by decide +kernel)
theorem kw_192 : (Jvm.Cond.fieldLink "PuppetTheatre$Play" (86 : Nat) "PuppetTheatre$Chart" "stateCount" "I") ∈ lw_all := pt_all (List.mem_of_getElem? (i := 192) (by decide +kernel)) (by decide +kernel)
theorem kw_193 : (Jvm.Cond.fieldLink "PuppetTheatre$Chart" (64 : Nat) "PuppetTheatre$Chart" "transitionCount" "I") ∈ lw_all := pt_all (List.mem_of_getElem? (i := 193) (by decide +kernel)) (by decide +kernel)
theorem kw_194 : (Jvm.Cond.fieldLink "PuppetTheatre" (111 : Nat) "PuppetTheatre$Chart" "transitionCount" "I") ∈ lw_all := pt_all (List.mem_of_getElem? (i := 194) (by decide +kernel)) (by decide +kernel)
theorem kw_195 : (Jvm.Cond.fieldLink "PuppetTheatre$Play" (155 : Nat) "PuppetTheatre$Chart" "transitionCount" "I") ∈ lw_all := pt_all (List.mem_of_getElem? (i := 195) (by decide +kernel)) (by decide +kernel)
theorem kw_196 : (Jvm.Cond.fieldLink "PuppetTheatre$Chart" (35 : Nat) "PuppetTheatre$Chart" "leaves" "I") ∈ lw_all := pt_all (List.mem_of_getElem? (i := 196) (by decide +kernel)) (by decide +kernel)
theorem kw_197 : (Jvm.Cond.fieldLink "PuppetTheatre$Play" (178 : Nat) "PuppetTheatre$Chart" "leaves" "I") ∈ lw_all := pt_all (List.mem_of_getElem? (i := 197) (by decide +kernel)) (by decide +kernel)
theorem kw_198 : (Jvm.Cond.fieldLink "PuppetTheatre$Chart" (61 : Nat) "PuppetTheatre$Chart" "ends" "I") ∈ lw_all := pt_all (List.mem_of_getElem? (i := 198) (by decide +kernel)) (by decide +kernel)
theorem kw_199 : (Jvm.Cond.fieldLink "PuppetTheatre$Play" (59 : Nat) "PuppetTheatre$Chart" "ends" "I") ∈ lw_all := pt_all (List.mem_of_getElem? (i := 199) (by decide +kernel)) (by decide +kernel)
theorem kw_227 : (Jvm.Cond.fieldLink "PuppetTheatre$Situation" (9 : Nat) "PuppetTheatre$Situation" "ages" "[I") ∈ lw_all := pt_all (List.mem_of_getElem? (i := 227) (by decide +kernel)) (by decide +kernel)
theorem kw_228 : (Jvm.Cond.fieldLink "PuppetTheatre$Play" (93 : Nat) "PuppetTheatre$Situation" "ages" "[I") ∈ lw_all := pt_all (List.mem_of_getElem? (i := 228) (by decide +kernel)) (by decide +kernel)
theorem kw_229 : (Jvm.Cond.fieldLink "PuppetTheatre" (193 : Nat) "PuppetTheatre$Situation" "ages" "[I") ∈ lw_all := pt_all (List.mem_of_getElem? (i := 229) (by decide +kernel)) (by decide +kernel)
theorem kw_230 : (Jvm.Cond.fieldLink "PuppetTheatre$Situation" (15 : Nat) "PuppetTheatre$Situation" "records" "[I") ∈ lw_all := pt_all (List.mem_of_getElem? (i := 230) (by decide +kernel)) (by decide +kernel)
theorem kw_231 : (Jvm.Cond.fieldLink "PuppetTheatre$Play" (210 : Nat) "PuppetTheatre$Situation" "records" "[I") ∈ lw_all := pt_all (List.mem_of_getElem? (i := 231) (by decide +kernel)) (by decide +kernel)
theorem kw_232 : (Jvm.Cond.fieldLink "PuppetTheatre" (197 : Nat) "PuppetTheatre$Situation" "records" "[I") ∈ lw_all := pt_all (List.mem_of_getElem? (i := 232) (by decide +kernel)) (by decide +kernel)
theorem kw_233 : (Jvm.Cond.fieldLink "PuppetTheatre$Situation" (18 : Nat) "PuppetTheatre$Situation" "variables" "[I") ∈ lw_all := pt_all (List.mem_of_getElem? (i := 233) (by decide +kernel)) (by decide +kernel)
theorem kw_234 : (Jvm.Cond.fieldLink "PuppetTheatre$Play" (165 : Nat) "PuppetTheatre$Situation" "variables" "[I") ∈ lw_all := pt_all (List.mem_of_getElem? (i := 234) (by decide +kernel)) (by decide +kernel)
theorem kw_235 : (Jvm.Cond.fieldLink "PuppetTheatre" (203 : Nat) "PuppetTheatre$Situation" "variables" "[I") ∈ lw_all := pt_all (List.mem_of_getElem? (i := 235) (by decide +kernel)) (by decide +kernel)
theorem kw_236 : (Jvm.Cond.fieldLink "PuppetTheatre$Situation" (21 : Nat) "PuppetTheatre$Situation" "active" "I") ∈ lw_all := pt_all (List.mem_of_getElem? (i := 236) (by decide +kernel)) (by decide +kernel)
theorem kw_237 : (Jvm.Cond.fieldLink "PuppetTheatre$Look" (42 : Nat) "PuppetTheatre$Situation" "active" "I") ∈ lw_all := pt_all (List.mem_of_getElem? (i := 237) (by decide +kernel)) (by decide +kernel)
theorem kw_238 : (Jvm.Cond.fieldLink "PuppetTheatre$Play" (62 : Nat) "PuppetTheatre$Situation" "active" "I") ∈ lw_all := pt_all (List.mem_of_getElem? (i := 238) (by decide +kernel)) (by decide +kernel)
theorem kw_239 : (Jvm.Cond.fieldLink "PuppetTheatre" (168 : Nat) "PuppetTheatre$Situation" "active" "I") ∈ lw_all := pt_all (List.mem_of_getElem? (i := 239) (by decide +kernel)) (by decide +kernel)
theorem kw_249 : (Jvm.Cond.fieldLink "PuppetTheatre$Play" (28 : Nat) "PuppetTheatre$Play" "chart" "LPuppetTheatre$Chart;") ∈ lw_all := pt_all (List.mem_of_getElem? (i := 249) (by decide +kernel)) (by decide +kernel)
theorem kw_250 : (Jvm.Cond.fieldLink "PuppetTheatre$Play" (12 : Nat) "PuppetTheatre$Play" "situation" "LPuppetTheatre$Situation;") ∈ lw_all := pt_all (List.mem_of_getElem? (i := 250) (by decide +kernel)) (by decide +kernel)
theorem kw_251 : (Jvm.Cond.fieldLink "PuppetTheatre$Look" (56 : Nat) "PuppetTheatre$Play" "situation" "LPuppetTheatre$Situation;") ∈ lw_all := pt_all (List.mem_of_getElem? (i := 251) (by decide +kernel)) (by decide +kernel)
theorem kw_252 : (Jvm.Cond.fieldLink "PuppetTheatre" (164 : Nat) "PuppetTheatre$Play" "situation" "LPuppetTheatre$Situation;") ∈ lw_all := pt_all (List.mem_of_getElem? (i := 252) (by decide +kernel)) (by decide +kernel)
theorem kw_253 : (Jvm.Cond.fieldLink "PuppetTheatre$Play" (18 : Nat) "PuppetTheatre$Play" "fired" "[I") ∈ lw_all := pt_all (List.mem_of_getElem? (i := 253) (by decide +kernel)) (by decide +kernel)
theorem kw_254 : (Jvm.Cond.fieldLink "PuppetTheatre" (209 : Nat) "PuppetTheatre$Play" "fired" "[I") ∈ lw_all := pt_all (List.mem_of_getElem? (i := 254) (by decide +kernel)) (by decide +kernel)
theorem kw_255 : (Jvm.Cond.fieldLink "PuppetTheatre$Look" (76 : Nat) "PuppetTheatre$Play" "firedLast" "I") ∈ lw_all := pt_all (List.mem_of_getElem? (i := 255) (by decide +kernel)) (by decide +kernel)
theorem kw_256 : (Jvm.Cond.fieldLink "PuppetTheatre$Play" (65 : Nat) "PuppetTheatre$Play" "firedLast" "I") ∈ lw_all := pt_all (List.mem_of_getElem? (i := 256) (by decide +kernel)) (by decide +kernel)
theorem kw_257 : (Jvm.Cond.fieldLink "PuppetTheatre$Play" (35 : Nat) "PuppetTheatre$Play" "clock" "I") ∈ lw_all := pt_all (List.mem_of_getElem? (i := 257) (by decide +kernel)) (by decide +kernel)
theorem kw_258 : (Jvm.Cond.fieldLink "PuppetTheatre" (206 : Nat) "PuppetTheatre$Play" "clock" "I") ∈ lw_all := pt_all (List.mem_of_getElem? (i := 258) (by decide +kernel)) (by decide +kernel)
theorem kw_259 : (Jvm.Cond.fieldLink "PuppetTheatre$Play" (39 : Nat) "PuppetTheatre$Play" "lost" "I") ∈ lw_all := pt_all (List.mem_of_getElem? (i := 259) (by decide +kernel)) (by decide +kernel)
theorem kw_260 : (Jvm.Cond.fieldLink "PuppetTheatre" (212 : Nat) "PuppetTheatre$Play" "lost" "I") ∈ lw_all := pt_all (List.mem_of_getElem? (i := 260) (by decide +kernel)) (by decide +kernel)
theorem kw_261 : (Jvm.Cond.fieldLink "PuppetTheatre$Play" (42 : Nat) "PuppetTheatre$Play" "restless" "I") ∈ lw_all := pt_all (List.mem_of_getElem? (i := 261) (by decide +kernel)) (by decide +kernel)
theorem kw_262 : (Jvm.Cond.fieldLink "PuppetTheatre" (215 : Nat) "PuppetTheatre$Play" "restless" "I") ∈ lw_all := pt_all (List.mem_of_getElem? (i := 262) (by decide +kernel)) (by decide +kernel)
theorem kw_263 : (Jvm.Cond.fieldLink "PuppetTheatre$Play" (22 : Nat) "PuppetTheatre$Play" "queue" "[I") ∈ lw_all := pt_all (List.mem_of_getElem? (i := 263) (by decide +kernel)) (by decide +kernel)
theorem kw_264 : (Jvm.Cond.fieldLink "PuppetTheatre$Play" (45 : Nat) "PuppetTheatre$Play" "queued" "I") ∈ lw_all := pt_all (List.mem_of_getElem? (i := 264) (by decide +kernel)) (by decide +kernel)
theorem kw_265 : (Jvm.Cond.fieldLink "PuppetTheatre$Play" (25 : Nat) "PuppetTheatre$Play" "taken" "[I") ∈ lw_all := pt_all (List.mem_of_getElem? (i := 265) (by decide +kernel)) (by decide +kernel)
theorem kw_266 : (Jvm.Cond.fieldLink "PuppetTheatre$Play" (103 : Nat) "PuppetTheatre$Play" "takenCount" "I") ∈ lw_all := pt_all (List.mem_of_getElem? (i := 266) (by decide +kernel)) (by decide +kernel)
theorem kw_299 : (Jvm.Cond.fieldLink "PuppetTheatre$Look" (9 : Nat) "PuppetTheatre$Look" "row" "[I") ∈ lw_all := pt_all (List.mem_of_getElem? (i := 299) (by decide +kernel)) (by decide +kernel)
theorem kw_300 : (Jvm.Cond.fieldLink "PuppetTheatre" (235 : Nat) "PuppetTheatre$Look" "row" "[I") ∈ lw_all := pt_all (List.mem_of_getElem? (i := 300) (by decide +kernel)) (by decide +kernel)
theorem kw_301 : (Jvm.Cond.fieldLink "PuppetTheatre$Look" (35 : Nat) "PuppetTheatre$Look" "rowLength" "I") ∈ lw_all := pt_all (List.mem_of_getElem? (i := 301) (by decide +kernel)) (by decide +kernel)
theorem kw_302 : (Jvm.Cond.fieldLink "PuppetTheatre" (232 : Nat) "PuppetTheatre$Look" "rowLength" "I") ∈ lw_all := pt_all (List.mem_of_getElem? (i := 302) (by decide +kernel)) (by decide +kernel)
theorem kw_303 : (Jvm.Cond.fieldLink "PuppetTheatre$Look" (39 : Nat) "PuppetTheatre$Look" "lookedAt" "I") ∈ lw_all := pt_all (List.mem_of_getElem? (i := 303) (by decide +kernel)) (by decide +kernel)
theorem kw_304 : (Jvm.Cond.fieldLink "PuppetTheatre" (238 : Nat) "PuppetTheatre$Look" "lookedAt" "I") ∈ lw_all := pt_all (List.mem_of_getElem? (i := 304) (by decide +kernel)) (by decide +kernel)
theorem kw_305 : (Jvm.Cond.fieldLink "PuppetTheatre$Look" (30 : Nat) "PuppetTheatre$Look" "trial" "LPuppetTheatre$Play;") ∈ lw_all := pt_all (List.mem_of_getElem? (i := 305) (by decide +kernel)) (by decide +kernel)
theorem kw_306 : (Jvm.Cond.fieldLink "PuppetTheatre$Look" (17 : Nat) "PuppetTheatre$Look" "found" "[LPuppetTheatre$Situation;") ∈ lw_all := pt_all (List.mem_of_getElem? (i := 306) (by decide +kernel)) (by decide +kernel)
theorem kw_307 : (Jvm.Cond.fieldLink "PuppetTheatre$Look" (21 : Nat) "PuppetTheatre$Look" "origin" "[I") ∈ lw_all := pt_all (List.mem_of_getElem? (i := 307) (by decide +kernel)) (by decide +kernel)
theorem kw_308 : (Jvm.Cond.fieldLink "PuppetTheatre$Look" (24 : Nat) "PuppetTheatre$Look" "byCall" "[I") ∈ lw_all := pt_all (List.mem_of_getElem? (i := 308) (by decide +kernel)) (by decide +kernel)
theorem kw_309 : (Jvm.Cond.fieldLink "PuppetTheatre$Look" (27 : Nat) "PuppetTheatre$Look" "calls" "[I") ∈ lw_all := pt_all (List.mem_of_getElem? (i := 309) (by decide +kernel)) (by decide +kernel)
theorem kw_310 : (Jvm.Cond.fieldLink "PuppetTheatre$Look" (53 : Nat) "PuppetTheatre$Look" "foundCount" "I") ∈ lw_all := pt_all (List.mem_of_getElem? (i := 310) (by decide +kernel)) (by decide +kernel)
theorem kw_330 : (Jvm.Cond.fieldLink "PuppetTheatre" (10 : Nat) "PuppetTheatre" "chart" "LPuppetTheatre$Chart;") ∈ lw_all := pt_all (List.mem_of_getElem? (i := 330) (by decide +kernel)) (by decide +kernel)
theorem kw_331 : (Jvm.Cond.fieldLink "PuppetTheatre" (21 : Nat) "PuppetTheatre" "play" "LPuppetTheatre$Play;") ∈ lw_all := pt_all (List.mem_of_getElem? (i := 331) (by decide +kernel)) (by decide +kernel)
theorem kw_332 : (Jvm.Cond.fieldLink "PuppetTheatre" (25 : Nat) "PuppetTheatre" "trial" "LPuppetTheatre$Play;") ∈ lw_all := pt_all (List.mem_of_getElem? (i := 332) (by decide +kernel)) (by decide +kernel)
theorem kw_333 : (Jvm.Cond.fieldLink "PuppetTheatre" (33 : Nat) "PuppetTheatre" "look" "LPuppetTheatre$Look;") ∈ lw_all := pt_all (List.mem_of_getElem? (i := 333) (by decide +kernel)) (by decide +kernel)
theorem kw_334 : (Jvm.Cond.fieldLink "PuppetTheatre" (37 : Nat) "PuppetTheatre" "running" "Z") ∈ lw_all := pt_all (List.mem_of_getElem? (i := 334) (by decide +kernel)) (by decide +kernel)
theorem kw_349 : (Jvm.Cond.code ({ cls := "PuppetTheatre", name := "start", desc := "()I" } : Jvm.MethodName) prog_1_method_8_code (1 : Nat) (Option.some Jvm.ClassFile.FieldType.int)) ∈ lw_all := pt_all (List.mem_of_getElem? (i := 349) (by decide +kernel)) (by decide +kernel)
theorem kw_350 : (Jvm.Cond.methodLink "PuppetTheatre" (76 : Nat) ({ cls := "PuppetTheatre", name := "checkResting", desc := "()V" } : Jvm.MethodName)) ∈ lw_all := pt_all (List.mem_of_getElem? (i := 350) (by decide +kernel)) (by decide +kernel)
theorem kw_352 : (Jvm.Cond.instanceMethod ({ cls := "PuppetTheatre", name := "checkResting", desc := "()V" } : Jvm.MethodName)) ∈ lw_all := pt_all (List.mem_of_getElem? (i := 352) (by decide +kernel)) (by decide +kernel)
theorem kw_353 : (Jvm.Cond.code ({ cls := "PuppetTheatre", name := "checkResting", desc := "()V" } : Jvm.MethodName) prog_1_method_37_code (1 : Nat) (Option.none : Option Jvm.ClassFile.FieldType)) ∈ lw_all := pt_all (List.mem_of_getElem? (i := 353) (by decide +kernel)) (by decide +kernel)
theorem kw_417 : (Jvm.Cond.methodLink "PuppetTheatre" (145 : Nat) ({ cls := "PuppetTheatre$Play", name := "reset", desc := "()V" } : Jvm.MethodName)) ∈ lw_all := pt_all (List.mem_of_getElem? (i := 417) (by decide +kernel)) (by decide +kernel)
theorem kw_418 : (Jvm.Cond.instanceMethod ({ cls := "PuppetTheatre$Play", name := "reset", desc := "()V" } : Jvm.MethodName)) ∈ lw_all := pt_all (List.mem_of_getElem? (i := 418) (by decide +kernel)) (by decide +kernel)
theorem kw_419 : (Jvm.Cond.selects "PuppetTheatre$Play" ({ cls := "PuppetTheatre$Play", name := "reset", desc := "()V" } : Jvm.MethodName) ({ cls := "PuppetTheatre$Play", name := "reset", desc := "()V" } : Jvm.MethodName)) ∈ lw_all := pt_all (List.mem_of_getElem? (i := 419) (by decide +kernel)) (by decide +kernel)
theorem kw_420 : (Jvm.Cond.code ({ cls := "PuppetTheatre$Play", name := "reset", desc := "()V" } : Jvm.MethodName) prog_5_method_2_code (2 : Nat) (Option.none : Option Jvm.ClassFile.FieldType)) ∈ lw_all := pt_all (List.mem_of_getElem? (i := 420) (by decide +kernel)) (by decide +kernel)
theorem kw_421 : (Jvm.Cond.methodLink "PuppetTheatre$Play" (32 : Nat) ({ cls := "PuppetTheatre$Situation", name := "clear", desc := "()V" } : Jvm.MethodName)) ∈ lw_all := pt_all (List.mem_of_getElem? (i := 421) (by decide +kernel)) (by decide +kernel)
theorem kw_422 : (Jvm.Cond.instanceMethod ({ cls := "PuppetTheatre$Situation", name := "clear", desc := "()V" } : Jvm.MethodName)) ∈ lw_all := pt_all (List.mem_of_getElem? (i := 422) (by decide +kernel)) (by decide +kernel)
theorem kw_423 : (Jvm.Cond.selects "PuppetTheatre$Situation" ({ cls := "PuppetTheatre$Situation", name := "clear", desc := "()V" } : Jvm.MethodName) ({ cls := "PuppetTheatre$Situation", name := "clear", desc := "()V" } : Jvm.MethodName)) ∈ lw_all := pt_all (List.mem_of_getElem? (i := 423) (by decide +kernel)) (by decide +kernel)
theorem kw_424 : (Jvm.Cond.code ({ cls := "PuppetTheatre$Situation", name := "clear", desc := "()V" } : Jvm.MethodName) prog_6_method_3_code (2 : Nat) (Option.none : Option Jvm.ClassFile.FieldType)) ∈ lw_all := pt_all (List.mem_of_getElem? (i := 424) (by decide +kernel)) (by decide +kernel)
theorem kw_425 : (Jvm.Cond.methodLink "PuppetTheatre$Situation" (25 : Nat) ({ cls := "PuppetTheatre$Situation", name := "deactivate", desc := "()V" } : Jvm.MethodName)) ∈ lw_all := pt_all (List.mem_of_getElem? (i := 425) (by decide +kernel)) (by decide +kernel)
theorem kw_426 : (Jvm.Cond.instanceMethod ({ cls := "PuppetTheatre$Situation", name := "deactivate", desc := "()V" } : Jvm.MethodName)) ∈ lw_all := pt_all (List.mem_of_getElem? (i := 426) (by decide +kernel)) (by decide +kernel)
theorem kw_427 : (Jvm.Cond.selects "PuppetTheatre$Situation" ({ cls := "PuppetTheatre$Situation", name := "deactivate", desc := "()V" } : Jvm.MethodName) ({ cls := "PuppetTheatre$Situation", name := "deactivate", desc := "()V" } : Jvm.MethodName)) ∈ lw_all := pt_all (List.mem_of_getElem? (i := 427) (by decide +kernel)) (by decide +kernel)
theorem kw_428 : (Jvm.Cond.code ({ cls := "PuppetTheatre$Situation", name := "deactivate", desc := "()V" } : Jvm.MethodName) prog_6_method_2_code (2 : Nat) (Option.none : Option Jvm.ClassFile.FieldType)) ∈ lw_all := pt_all (List.mem_of_getElem? (i := 428) (by decide +kernel)) (by decide +kernel)
theorem kw_429 : (Jvm.Cond.methodLink "PuppetTheatre" (148 : Nat) ({ cls := "PuppetTheatre", name := "setOf", desc := "(I)I" } : Jvm.MethodName)) ∈ lw_all := pt_all (List.mem_of_getElem? (i := 429) (by decide +kernel)) (by decide +kernel)
theorem kw_430 : (Jvm.Cond.methodLink "PuppetTheatre" (152 : Nat) ({ cls := "PuppetTheatre$Chart", name := "filled", desc := "(I)I" } : Jvm.MethodName)) ∈ lw_all := pt_all (List.mem_of_getElem? (i := 430) (by decide +kernel)) (by decide +kernel)
theorem kw_431 : (Jvm.Cond.instanceMethod ({ cls := "PuppetTheatre$Chart", name := "filled", desc := "(I)I" } : Jvm.MethodName)) ∈ lw_all := pt_all (List.mem_of_getElem? (i := 431) (by decide +kernel)) (by decide +kernel)
theorem kw_432 : (Jvm.Cond.selects "PuppetTheatre$Chart" ({ cls := "PuppetTheatre$Chart", name := "filled", desc := "(I)I" } : Jvm.MethodName) ({ cls := "PuppetTheatre$Chart", name := "filled", desc := "(I)I" } : Jvm.MethodName)) ∈ lw_all := pt_all (List.mem_of_getElem? (i := 432) (by decide +kernel)) (by decide +kernel)
theorem kw_433 : (Jvm.Cond.code ({ cls := "PuppetTheatre$Chart", name := "filled", desc := "(I)I" } : Jvm.MethodName) prog_3_method_6_code (4 : Nat) (Option.some Jvm.ClassFile.FieldType.int)) ∈ lw_all := pt_all (List.mem_of_getElem? (i := 433) (by decide +kernel)) (by decide +kernel)
theorem kw_434 : (Jvm.Cond.methodLinkNest "PuppetTheatre$Chart" (49 : Nat) ({ cls := "PuppetTheatre", name := "has", desc := "(II)Z" } : Jvm.MethodName) "PuppetTheatre") ∈ lw_all := pt_all (List.mem_of_getElem? (i := 434) (by decide +kernel)) (by decide +kernel)
theorem kw_435 : (Jvm.Cond.static ({ cls := "PuppetTheatre", name := "has", desc := "(II)Z" } : Jvm.MethodName)) ∈ lw_all := pt_all (List.mem_of_getElem? (i := 435) (by decide +kernel)) (by decide +kernel)
theorem kw_436 : (Jvm.Cond.code ({ cls := "PuppetTheatre", name := "has", desc := "(II)Z" } : Jvm.MethodName) prog_1_method_49_code (2 : Nat) (Option.some Jvm.ClassFile.FieldType.boolean)) ∈ lw_all := pt_all (List.mem_of_getElem? (i := 436) (by decide +kernel)) (by decide +kernel)
theorem kw_437 : (Jvm.Cond.methodLink "PuppetTheatre" (155 : Nat) ({ cls := "PuppetTheatre$Play", name := "enter", desc := "(I)V" } : Jvm.MethodName)) ∈ lw_all := pt_all (List.mem_of_getElem? (i := 437) (by decide +kernel)) (by decide +kernel)
theorem kw_438 : (Jvm.Cond.instanceMethod ({ cls := "PuppetTheatre$Play", name := "enter", desc := "(I)V" } : Jvm.MethodName)) ∈ lw_all := pt_all (List.mem_of_getElem? (i := 438) (by decide +kernel)) (by decide +kernel)
theorem kw_439 : (Jvm.Cond.selects "PuppetTheatre$Play" ({ cls := "PuppetTheatre$Play", name := "enter", desc := "(I)V" } : Jvm.MethodName) ({ cls := "PuppetTheatre$Play", name := "enter", desc := "(I)V" } : Jvm.MethodName)) ∈ lw_all := pt_all (List.mem_of_getElem? (i := 439) (by decide +kernel)) (by decide +kernel)
theorem kw_440 : (Jvm.Cond.code ({ cls := "PuppetTheatre$Play", name := "enter", desc := "(I)V" } : Jvm.MethodName) prog_5_method_19_code (3 : Nat) (Option.none : Option Jvm.ClassFile.FieldType)) ∈ lw_all := pt_all (List.mem_of_getElem? (i := 440) (by decide +kernel)) (by decide +kernel)
theorem kw_441 : (Jvm.Cond.methodLinkNest "PuppetTheatre$Play" (89 : Nat) ({ cls := "PuppetTheatre", name := "has", desc := "(II)Z" } : Jvm.MethodName) "PuppetTheatre") ∈ lw_all := pt_all (List.mem_of_getElem? (i := 441) (by decide +kernel)) (by decide +kernel)
theorem kw_442 : (Jvm.Cond.methodLinkNest "PuppetTheatre$Play" (143 : Nat) ({ cls := "PuppetTheatre", name := "setOf", desc := "(I)I" } : Jvm.MethodName) "PuppetTheatre") ∈ lw_all := pt_all (List.mem_of_getElem? (i := 442) (by decide +kernel)) (by decide +kernel)
theorem kw_443 : (Jvm.Cond.methodLink "PuppetTheatre$Play" (126 : Nat) ({ cls := "PuppetTheatre$Play", name := "act", desc := "(LPuppetTheatre$Action;)V" } : Jvm.MethodName)) ∈ lw_all := pt_all (List.mem_of_getElem? (i := 443) (by decide +kernel)) (by decide +kernel)
theorem kw_445 : (Jvm.Cond.instanceMethod ({ cls := "PuppetTheatre$Play", name := "act", desc := "(LPuppetTheatre$Action;)V" } : Jvm.MethodName)) ∈ lw_all := pt_all (List.mem_of_getElem? (i := 445) (by decide +kernel)) (by decide +kernel)
theorem kw_446 : (Jvm.Cond.code ({ cls := "PuppetTheatre$Play", name := "act", desc := "(LPuppetTheatre$Action;)V" } : Jvm.MethodName) prog_5_method_21_code (2 : Nat) (Option.none : Option Jvm.ClassFile.FieldType)) ∈ lw_all := pt_all (List.mem_of_getElem? (i := 446) (by decide +kernel)) (by decide +kernel)
theorem kw_447 : (Jvm.Cond.methodLink "PuppetTheatre$Play" (231 : Nat) ({ cls := "PuppetTheatre$Situation", name := "add", desc := "(II)V" } : Jvm.MethodName)) ∈ lw_all := pt_all (List.mem_of_getElem? (i := 447) (by decide +kernel)) (by decide +kernel)
theorem kw_448 : (Jvm.Cond.instanceMethod ({ cls := "PuppetTheatre$Situation", name := "add", desc := "(II)V" } : Jvm.MethodName)) ∈ lw_all := pt_all (List.mem_of_getElem? (i := 448) (by decide +kernel)) (by decide +kernel)
theorem kw_449 : (Jvm.Cond.selects "PuppetTheatre$Situation" ({ cls := "PuppetTheatre$Situation", name := "add", desc := "(II)V" } : Jvm.MethodName) ({ cls := "PuppetTheatre$Situation", name := "add", desc := "(II)V" } : Jvm.MethodName)) ∈ lw_all := pt_all (List.mem_of_getElem? (i := 449) (by decide +kernel)) (by decide +kernel)
theorem kw_450 : (Jvm.Cond.code ({ cls := "PuppetTheatre$Situation", name := "add", desc := "(II)V" } : Jvm.MethodName) prog_6_method_4_code (4 : Nat) (Option.none : Option Jvm.ClassFile.FieldType)) ∈ lw_all := pt_all (List.mem_of_getElem? (i := 450) (by decide +kernel)) (by decide +kernel)
theorem kw_451 : (Jvm.Cond.methodLink "PuppetTheatre$Situation" (28 : Nat) ({ cls := "java/lang/Math", name := "min", desc := "(II)I" } : Jvm.MethodName)) ∈ lw_all := pt_all (List.mem_of_getElem? (i := 451) (by decide +kernel)) (by decide +kernel)
theorem kw_452 : (Jvm.Cond.static ({ cls := "java/lang/Math", name := "min", desc := "(II)I" } : Jvm.MethodName)) ∈ lw_all := pt_all (List.mem_of_getElem? (i := 452) (by decide +kernel)) (by decide +kernel)
theorem kw_453 : (Jvm.Cond.code ({ cls := "java/lang/Math", name := "min", desc := "(II)I" } : Jvm.MethodName) prog_20_method_69_code (2 : Nat) (Option.some Jvm.ClassFile.FieldType.int)) ∈ lw_all := pt_all (List.mem_of_getElem? (i := 453) (by decide +kernel)) (by decide +kernel)
theorem kw_454 : (Jvm.Cond.methodLink "PuppetTheatre$Situation" (34 : Nat) ({ cls := "java/lang/Math", name := "max", desc := "(II)I" } : Jvm.MethodName)) ∈ lw_all := pt_all (List.mem_of_getElem? (i := 454) (by decide +kernel)) (by decide +kernel)
theorem kw_455 : (Jvm.Cond.static ({ cls := "java/lang/Math", name := "max", desc := "(II)I" } : Jvm.MethodName)) ∈ lw_all := pt_all (List.mem_of_getElem? (i := 455) (by decide +kernel)) (by decide +kernel)
theorem kw_456 : (Jvm.Cond.code ({ cls := "java/lang/Math", name := "max", desc := "(II)I" } : Jvm.MethodName) prog_20_method_65_code (2 : Nat) (Option.some Jvm.ClassFile.FieldType.int)) ∈ lw_all := pt_all (List.mem_of_getElem? (i := 456) (by decide +kernel)) (by decide +kernel)
theorem kw_457 : (Jvm.Cond.methodLink "PuppetTheatre$Play" (235 : Nat) ({ cls := "PuppetTheatre$Play", name := "raise", desc := "(I)V" } : Jvm.MethodName)) ∈ lw_all := pt_all (List.mem_of_getElem? (i := 457) (by decide +kernel)) (by decide +kernel)
theorem kw_459 : (Jvm.Cond.instanceMethod ({ cls := "PuppetTheatre$Play", name := "raise", desc := "(I)V" } : Jvm.MethodName)) ∈ lw_all := pt_all (List.mem_of_getElem? (i := 459) (by decide +kernel)) (by decide +kernel)
theorem kw_460 : (Jvm.Cond.code ({ cls := "PuppetTheatre$Play", name := "raise", desc := "(I)V" } : Jvm.MethodName) prog_5_method_6_code (2 : Nat) (Option.none : Option Jvm.ClassFile.FieldType)) ∈ lw_all := pt_all (List.mem_of_getElem? (i := 460) (by decide +kernel)) (by decide +kernel)
theorem kw_461 : (Jvm.Cond.methodLink "PuppetTheatre" (158 : Nat) ({ cls := "PuppetTheatre$Play", name := "proceed", desc := "(I)I" } : Jvm.MethodName)) ∈ lw_all := pt_all (List.mem_of_getElem? (i := 461) (by decide +kernel)) (by decide +kernel)
theorem kw_462 : (Jvm.Cond.instanceMethod ({ cls := "PuppetTheatre$Play", name := "proceed", desc := "(I)I" } : Jvm.MethodName)) ∈ lw_all := pt_all (List.mem_of_getElem? (i := 462) (by decide +kernel)) (by decide +kernel)
theorem kw_463 : (Jvm.Cond.selects "PuppetTheatre$Play" ({ cls := "PuppetTheatre$Play", name := "proceed", desc := "(I)I" } : Jvm.MethodName) ({ cls := "PuppetTheatre$Play", name := "proceed", desc := "(I)I" } : Jvm.MethodName)) ∈ lw_all := pt_all (List.mem_of_getElem? (i := 463) (by decide +kernel)) (by decide +kernel)
theorem kw_464 : (Jvm.Cond.code ({ cls := "PuppetTheatre$Play", name := "proceed", desc := "(I)I" } : Jvm.MethodName) prog_5_method_4_code (7 : Nat) (Option.some Jvm.ClassFile.FieldType.int)) ∈ lw_all := pt_all (List.mem_of_getElem? (i := 464) (by decide +kernel)) (by decide +kernel)
theorem kw_465 : (Jvm.Cond.methodLink "PuppetTheatre$Play" (68 : Nat) ({ cls := "PuppetTheatre$Play", name := "isAtEnd", desc := "()Z" } : Jvm.MethodName)) ∈ lw_all := pt_all (List.mem_of_getElem? (i := 465) (by decide +kernel)) (by decide +kernel)
theorem kw_466 : (Jvm.Cond.instanceMethod ({ cls := "PuppetTheatre$Play", name := "isAtEnd", desc := "()Z" } : Jvm.MethodName)) ∈ lw_all := pt_all (List.mem_of_getElem? (i := 466) (by decide +kernel)) (by decide +kernel)
theorem kw_467 : (Jvm.Cond.selects "PuppetTheatre$Play" ({ cls := "PuppetTheatre$Play", name := "isAtEnd", desc := "()Z" } : Jvm.MethodName) ({ cls := "PuppetTheatre$Play", name := "isAtEnd", desc := "()Z" } : Jvm.MethodName)) ∈ lw_all := pt_all (List.mem_of_getElem? (i := 467) (by decide +kernel)) (by decide +kernel)
theorem kw_468 : (Jvm.Cond.code ({ cls := "PuppetTheatre$Play", name := "isAtEnd", desc := "()Z" } : Jvm.MethodName) prog_5_method_3_code (1 : Nat) (Option.some Jvm.ClassFile.FieldType.boolean)) ∈ lw_all := pt_all (List.mem_of_getElem? (i := 468) (by decide +kernel)) (by decide +kernel)
theorem kw_469 : (Jvm.Cond.methodLink "PuppetTheatre$Play" (72 : Nat) ({ cls := "PuppetTheatre$Play", name := "loseQueue", desc := "()V" } : Jvm.MethodName)) ∈ lw_all := pt_all (List.mem_of_getElem? (i := 469) (by decide +kernel)) (by decide +kernel)
theorem kw_471 : (Jvm.Cond.instanceMethod ({ cls := "PuppetTheatre$Play", name := "loseQueue", desc := "()V" } : Jvm.MethodName)) ∈ lw_all := pt_all (List.mem_of_getElem? (i := 471) (by decide +kernel)) (by decide +kernel)
theorem kw_472 : (Jvm.Cond.code ({ cls := "PuppetTheatre$Play", name := "loseQueue", desc := "()V" } : Jvm.MethodName) prog_5_method_7_code (1 : Nat) (Option.none : Option Jvm.ClassFile.FieldType)) ∈ lw_all := pt_all (List.mem_of_getElem? (i := 472) (by decide +kernel)) (by decide +kernel)
theorem kw_473 : (Jvm.Cond.methodLink "PuppetTheatre$Play" (75 : Nat) ({ cls := "PuppetTheatre$Play", name := "growOlder", desc := "()V" } : Jvm.MethodName)) ∈ lw_all := pt_all (List.mem_of_getElem? (i := 473) (by decide +kernel)) (by decide +kernel)
theorem kw_475 : (Jvm.Cond.instanceMethod ({ cls := "PuppetTheatre$Play", name := "growOlder", desc := "()V" } : Jvm.MethodName)) ∈ lw_all := pt_all (List.mem_of_getElem? (i := 475) (by decide +kernel)) (by decide +kernel)
theorem kw_476 : (Jvm.Cond.code ({ cls := "PuppetTheatre$Play", name := "growOlder", desc := "()V" } : Jvm.MethodName) prog_5_method_5_code (2 : Nat) (Option.none : Option Jvm.ClassFile.FieldType)) ∈ lw_all := pt_all (List.mem_of_getElem? (i := 476) (by decide +kernel)) (by decide +kernel)
theorem kw_477 : (Jvm.Cond.methodLink "PuppetTheatre$Play" (78 : Nat) ({ cls := "PuppetTheatre$Play", name := "step", desc := "(I)I" } : Jvm.MethodName)) ∈ lw_all := pt_all (List.mem_of_getElem? (i := 477) (by decide +kernel)) (by decide +kernel)
theorem kw_479 : (Jvm.Cond.instanceMethod ({ cls := "PuppetTheatre$Play", name := "step", desc := "(I)I" } : Jvm.MethodName)) ∈ lw_all := pt_all (List.mem_of_getElem? (i := 479) (by decide +kernel)) (by decide +kernel)
theorem kw_480 : (Jvm.Cond.code ({ cls := "PuppetTheatre$Play", name := "step", desc := "(I)I" } : Jvm.MethodName) prog_5_method_9_code (7 : Nat) (Option.some Jvm.ClassFile.FieldType.int)) ∈ lw_all := pt_all (List.mem_of_getElem? (i := 480) (by decide +kernel)) (by decide +kernel)
theorem kw_481 : (Jvm.Cond.methodLink "PuppetTheatre$Play" (96 : Nat) ({ cls := "PuppetTheatre$Play", name := "openBy", desc := "(I)I" } : Jvm.MethodName)) ∈ lw_all := pt_all (List.mem_of_getElem? (i := 481) (by decide +kernel)) (by decide +kernel)
theorem kw_482 : (Jvm.Cond.instanceMethod ({ cls := "PuppetTheatre$Play", name := "openBy", desc := "(I)I" } : Jvm.MethodName)) ∈ lw_all := pt_all (List.mem_of_getElem? (i := 482) (by decide +kernel)) (by decide +kernel)
theorem kw_483 : (Jvm.Cond.selects "PuppetTheatre$Play" ({ cls := "PuppetTheatre$Play", name := "openBy", desc := "(I)I" } : Jvm.MethodName) ({ cls := "PuppetTheatre$Play", name := "openBy", desc := "(I)I" } : Jvm.MethodName)) ∈ lw_all := pt_all (List.mem_of_getElem? (i := 483) (by decide +kernel)) (by decide +kernel)
theorem kw_484 : (Jvm.Cond.code ({ cls := "PuppetTheatre$Play", name := "openBy", desc := "(I)I" } : Jvm.MethodName) prog_5_method_10_code (6 : Nat) (Option.some Jvm.ClassFile.FieldType.int)) ∈ lw_all := pt_all (List.mem_of_getElem? (i := 484) (by decide +kernel)) (by decide +kernel)
theorem kw_485 : (Jvm.Cond.methodLink "PuppetTheatre$Play" (152 : Nat) ({ cls := "PuppetTheatre$Chart", name := "endedAmong", desc := "(I)I" } : Jvm.MethodName)) ∈ lw_all := pt_all (List.mem_of_getElem? (i := 485) (by decide +kernel)) (by decide +kernel)
theorem kw_486 : (Jvm.Cond.instanceMethod ({ cls := "PuppetTheatre$Chart", name := "endedAmong", desc := "(I)I" } : Jvm.MethodName)) ∈ lw_all := pt_all (List.mem_of_getElem? (i := 486) (by decide +kernel)) (by decide +kernel)
theorem kw_487 : (Jvm.Cond.selects "PuppetTheatre$Chart" ({ cls := "PuppetTheatre$Chart", name := "endedAmong", desc := "(I)I" } : Jvm.MethodName) ({ cls := "PuppetTheatre$Chart", name := "endedAmong", desc := "(I)I" } : Jvm.MethodName)) ∈ lw_all := pt_all (List.mem_of_getElem? (i := 487) (by decide +kernel)) (by decide +kernel)
theorem kw_488 : (Jvm.Cond.code ({ cls := "PuppetTheatre$Chart", name := "endedAmong", desc := "(I)I" } : Jvm.MethodName) prog_3_method_9_code (7 : Nat) (Option.some Jvm.ClassFile.FieldType.int)) ∈ lw_all := pt_all (List.mem_of_getElem? (i := 488) (by decide +kernel)) (by decide +kernel)
theorem kw_489 : (Jvm.Cond.methodLink "PuppetTheatre$Play" (158 : Nat) ({ cls := "PuppetTheatre$Play", name := "isOpen", desc := "(LPuppetTheatre$Transition;I)Z" } : Jvm.MethodName)) ∈ lw_all := pt_all (List.mem_of_getElem? (i := 489) (by decide +kernel)) (by decide +kernel)
theorem kw_491 : (Jvm.Cond.instanceMethod ({ cls := "PuppetTheatre$Play", name := "isOpen", desc := "(LPuppetTheatre$Transition;I)Z" } : Jvm.MethodName)) ∈ lw_all := pt_all (List.mem_of_getElem? (i := 491) (by decide +kernel)) (by decide +kernel)
theorem kw_492 : (Jvm.Cond.code ({ cls := "PuppetTheatre$Play", name := "isOpen", desc := "(LPuppetTheatre$Transition;I)Z" } : Jvm.MethodName) prog_5_method_11_code (3 : Nat) (Option.some Jvm.ClassFile.FieldType.boolean)) ∈ lw_all := pt_all (List.mem_of_getElem? (i := 492) (by decide +kernel)) (by decide +kernel)
theorem kw_493 : (Jvm.Cond.methodLink "PuppetTheatre$Play" (168 : Nat) ({ cls := "PuppetTheatre$Transition", name := "isAllowed", desc := "([I)Z" } : Jvm.MethodName)) ∈ lw_all := pt_all (List.mem_of_getElem? (i := 493) (by decide +kernel)) (by decide +kernel)
theorem kw_494 : (Jvm.Cond.instanceMethod ({ cls := "PuppetTheatre$Transition", name := "isAllowed", desc := "([I)Z" } : Jvm.MethodName)) ∈ lw_all := pt_all (List.mem_of_getElem? (i := 494) (by decide +kernel)) (by decide +kernel)
theorem kw_495 : (Jvm.Cond.selects "PuppetTheatre$Transition" ({ cls := "PuppetTheatre$Transition", name := "isAllowed", desc := "([I)Z" } : Jvm.MethodName) ({ cls := "PuppetTheatre$Transition", name := "isAllowed", desc := "([I)Z" } : Jvm.MethodName)) ∈ lw_all := pt_all (List.mem_of_getElem? (i := 495) (by decide +kernel)) (by decide +kernel)
theorem kw_496 : (Jvm.Cond.code ({ cls := "PuppetTheatre$Transition", name := "isAllowed", desc := "([I)Z" } : Jvm.MethodName) prog_8_method_2_code (2 : Nat) (Option.some Jvm.ClassFile.FieldType.boolean)) ∈ lw_all := pt_all (List.mem_of_getElem? (i := 496) (by decide +kernel)) (by decide +kernel)
theorem kw_497 : (Jvm.Cond.methodLink "PuppetTheatre$Play" (99 : Nat) ({ cls := "PuppetTheatre$Play", name := "choose", desc := "(I)V" } : Jvm.MethodName)) ∈ lw_all := pt_all (List.mem_of_getElem? (i := 497) (by decide +kernel)) (by decide +kernel)
theorem kw_499 : (Jvm.Cond.instanceMethod ({ cls := "PuppetTheatre$Play", name := "choose", desc := "(I)V" } : Jvm.MethodName)) ∈ lw_all := pt_all (List.mem_of_getElem? (i := 499) (by decide +kernel)) (by decide +kernel)
theorem kw_500 : (Jvm.Cond.code ({ cls := "PuppetTheatre$Play", name := "choose", desc := "(I)V" } : Jvm.MethodName) prog_5_method_12_code (6 : Nat) (Option.none : Option Jvm.ClassFile.FieldType)) ∈ lw_all := pt_all (List.mem_of_getElem? (i := 500) (by decide +kernel)) (by decide +kernel)
theorem kw_501 : (Jvm.Cond.methodLink "PuppetTheatre$Play" (181 : Nat) ({ cls := "PuppetTheatre$Play", name := "nearestOpen", desc := "(II)I" } : Jvm.MethodName)) ∈ lw_all := pt_all (List.mem_of_getElem? (i := 501) (by decide +kernel)) (by decide +kernel)
theorem kw_503 : (Jvm.Cond.instanceMethod ({ cls := "PuppetTheatre$Play", name := "nearestOpen", desc := "(II)I" } : Jvm.MethodName)) ∈ lw_all := pt_all (List.mem_of_getElem? (i := 503) (by decide +kernel)) (by decide +kernel)
theorem kw_504 : (Jvm.Cond.code ({ cls := "PuppetTheatre$Play", name := "nearestOpen", desc := "(II)I" } : Jvm.MethodName) prog_5_method_13_code (5 : Nat) (Option.some Jvm.ClassFile.FieldType.int)) ∈ lw_all := pt_all (List.mem_of_getElem? (i := 504) (by decide +kernel)) (by decide +kernel)
theorem kw_505 : (Jvm.Cond.methodLink "PuppetTheatre$Play" (193 : Nat) ({ cls := "PuppetTheatre$Play", name := "smallestOf", desc := "(I)I" } : Jvm.MethodName)) ∈ lw_all := pt_all (List.mem_of_getElem? (i := 505) (by decide +kernel)) (by decide +kernel)
theorem kw_506 : (Jvm.Cond.static ({ cls := "PuppetTheatre$Play", name := "smallestOf", desc := "(I)I" } : Jvm.MethodName)) ∈ lw_all := pt_all (List.mem_of_getElem? (i := 506) (by decide +kernel)) (by decide +kernel)
theorem kw_507 : (Jvm.Cond.code ({ cls := "PuppetTheatre$Play", name := "smallestOf", desc := "(I)I" } : Jvm.MethodName) prog_5_method_14_code (1 : Nat) (Option.some Jvm.ClassFile.FieldType.int)) ∈ lw_all := pt_all (List.mem_of_getElem? (i := 507) (by decide +kernel)) (by decide +kernel)
theorem kw_508 : (Jvm.Cond.methodLink "PuppetTheatre$Play" (196 : Nat) ({ cls := "java/lang/Integer", name := "bitCount", desc := "(I)I" } : Jvm.MethodName)) ∈ lw_all := pt_all (List.mem_of_getElem? (i := 508) (by decide +kernel)) (by decide +kernel)
theorem kw_509 : (Jvm.Cond.static ({ cls := "java/lang/Integer", name := "bitCount", desc := "(I)I" } : Jvm.MethodName)) ∈ lw_all := pt_all (List.mem_of_getElem? (i := 509) (by decide +kernel)) (by decide +kernel)
theorem kw_510 : (Jvm.Cond.code ({ cls := "java/lang/Integer", name := "bitCount", desc := "(I)I" } : Jvm.MethodName) prog_19_method_49_code (1 : Nat) (Option.some Jvm.ClassFile.FieldType.int)) ∈ lw_all := pt_all (List.mem_of_getElem? (i := 510) (by decide +kernel)) (by decide +kernel)
theorem kw_511 : (Jvm.Cond.constant "java/lang/Integer" (265 : Nat) (1431655765 : Int32)) ∈ lw_all := pt_all (List.mem_of_getElem? (i := 511) (by decide +kernel)) (by decide +kernel)
theorem kw_512 : (Jvm.Cond.constant "java/lang/Integer" (266 : Nat) (858993459 : Int32)) ∈ lw_all := pt_all (List.mem_of_getElem? (i := 512) (by decide +kernel)) (by decide +kernel)
theorem kw_513 : (Jvm.Cond.constant "java/lang/Integer" (267 : Nat) (252645135 : Int32)) ∈ lw_all := pt_all (List.mem_of_getElem? (i := 513) (by decide +kernel)) (by decide +kernel)
theorem kw_514 : (Jvm.Cond.methodLink "PuppetTheatre$Play" (184 : Nat) ({ cls := "PuppetTheatre$Play", name := "takeIfFree", desc := "(I)V" } : Jvm.MethodName)) ∈ lw_all := pt_all (List.mem_of_getElem? (i := 514) (by decide +kernel)) (by decide +kernel)
theorem kw_516 : (Jvm.Cond.instanceMethod ({ cls := "PuppetTheatre$Play", name := "takeIfFree", desc := "(I)V" } : Jvm.MethodName)) ∈ lw_all := pt_all (List.mem_of_getElem? (i := 516) (by decide +kernel)) (by decide +kernel)
theorem kw_517 : (Jvm.Cond.code ({ cls := "PuppetTheatre$Play", name := "takeIfFree", desc := "(I)V" } : Jvm.MethodName) prog_5_method_15_code (6 : Nat) (Option.none : Option Jvm.ClassFile.FieldType)) ∈ lw_all := pt_all (List.mem_of_getElem? (i := 517) (by decide +kernel)) (by decide +kernel)
theorem kw_518 : (Jvm.Cond.methodLink "PuppetTheatre$Play" (110 : Nat) ({ cls := "PuppetTheatre$Play", name := "leftBy", desc := "(LPuppetTheatre$Transition;)I" } : Jvm.MethodName)) ∈ lw_all := pt_all (List.mem_of_getElem? (i := 518) (by decide +kernel)) (by decide +kernel)
theorem kw_520 : (Jvm.Cond.instanceMethod ({ cls := "PuppetTheatre$Play", name := "leftBy", desc := "(LPuppetTheatre$Transition;)I" } : Jvm.MethodName)) ∈ lw_all := pt_all (List.mem_of_getElem? (i := 520) (by decide +kernel)) (by decide +kernel)
theorem kw_521 : (Jvm.Cond.code ({ cls := "PuppetTheatre$Play", name := "leftBy", desc := "(LPuppetTheatre$Transition;)I" } : Jvm.MethodName) prog_5_method_16_code (2 : Nat) (Option.some Jvm.ClassFile.FieldType.int)) ∈ lw_all := pt_all (List.mem_of_getElem? (i := 521) (by decide +kernel)) (by decide +kernel)
theorem kw_522 : (Jvm.Cond.methodLink "PuppetTheatre$Play" (114 : Nat) ({ cls := "PuppetTheatre$Play", name := "makeRecords", desc := "(I)V" } : Jvm.MethodName)) ∈ lw_all := pt_all (List.mem_of_getElem? (i := 522) (by decide +kernel)) (by decide +kernel)
theorem kw_524 : (Jvm.Cond.instanceMethod ({ cls := "PuppetTheatre$Play", name := "makeRecords", desc := "(I)V" } : Jvm.MethodName)) ∈ lw_all := pt_all (List.mem_of_getElem? (i := 524) (by decide +kernel)) (by decide +kernel)
theorem kw_525 : (Jvm.Cond.code ({ cls := "PuppetTheatre$Play", name := "makeRecords", desc := "(I)V" } : Jvm.MethodName) prog_5_method_17_code (6 : Nat) (Option.none : Option Jvm.ClassFile.FieldType)) ∈ lw_all := pt_all (List.mem_of_getElem? (i := 525) (by decide +kernel)) (by decide +kernel)
theorem kw_526 : (Jvm.Cond.methodLink "PuppetTheatre$Play" (201 : Nat) ({ cls := "PuppetTheatre$State", name := "isMark", desc := "()Z" } : Jvm.MethodName)) ∈ lw_all := pt_all (List.mem_of_getElem? (i := 526) (by decide +kernel)) (by decide +kernel)
theorem kw_527 : (Jvm.Cond.instanceMethod ({ cls := "PuppetTheatre$State", name := "isMark", desc := "()Z" } : Jvm.MethodName)) ∈ lw_all := pt_all (List.mem_of_getElem? (i := 527) (by decide +kernel)) (by decide +kernel)
theorem kw_528 : (Jvm.Cond.selects "PuppetTheatre$State" ({ cls := "PuppetTheatre$State", name := "isMark", desc := "()Z" } : Jvm.MethodName) ({ cls := "PuppetTheatre$State", name := "isMark", desc := "()Z" } : Jvm.MethodName)) ∈ lw_all := pt_all (List.mem_of_getElem? (i := 528) (by decide +kernel)) (by decide +kernel)
theorem kw_529 : (Jvm.Cond.code ({ cls := "PuppetTheatre$State", name := "isMark", desc := "()Z" } : Jvm.MethodName) prog_7_method_2_code (1 : Nat) (Option.some Jvm.ClassFile.FieldType.boolean)) ∈ lw_all := pt_all (List.mem_of_getElem? (i := 529) (by decide +kernel)) (by decide +kernel)
theorem kw_530 : (Jvm.Cond.methodLink "PuppetTheatre$Play" (117 : Nat) ({ cls := "PuppetTheatre$Play", name := "leave", desc := "(I)V" } : Jvm.MethodName)) ∈ lw_all := pt_all (List.mem_of_getElem? (i := 530) (by decide +kernel)) (by decide +kernel)
theorem kw_532 : (Jvm.Cond.instanceMethod ({ cls := "PuppetTheatre$Play", name := "leave", desc := "(I)V" } : Jvm.MethodName)) ∈ lw_all := pt_all (List.mem_of_getElem? (i := 532) (by decide +kernel)) (by decide +kernel)
theorem kw_533 : (Jvm.Cond.code ({ cls := "PuppetTheatre$Play", name := "leave", desc := "(I)V" } : Jvm.MethodName) prog_5_method_18_code (3 : Nat) (Option.none : Option Jvm.ClassFile.FieldType)) ∈ lw_all := pt_all (List.mem_of_getElem? (i := 533) (by decide +kernel)) (by decide +kernel)
theorem kw_534 : (Jvm.Cond.methodLink "PuppetTheatre$Play" (133 : Nat) ({ cls := "PuppetTheatre$Play", name := "targetsOf", desc := "(LPuppetTheatre$Transition;)I" } : Jvm.MethodName)) ∈ lw_all := pt_all (List.mem_of_getElem? (i := 534) (by decide +kernel)) (by decide +kernel)
theorem kw_536 : (Jvm.Cond.instanceMethod ({ cls := "PuppetTheatre$Play", name := "targetsOf", desc := "(LPuppetTheatre$Transition;)I" } : Jvm.MethodName)) ∈ lw_all := pt_all (List.mem_of_getElem? (i := 536) (by decide +kernel)) (by decide +kernel)
theorem kw_537 : (Jvm.Cond.code ({ cls := "PuppetTheatre$Play", name := "targetsOf", desc := "(LPuppetTheatre$Transition;)I" } : Jvm.MethodName) prog_5_method_20_code (3 : Nat) (Option.some Jvm.ClassFile.FieldType.int)) ∈ lw_all := pt_all (List.mem_of_getElem? (i := 537) (by decide +kernel)) (by decide +kernel)
theorem kw_538 : (Jvm.Cond.methodLink "PuppetTheatre$Play" (139 : Nat) ({ cls := "PuppetTheatre$Chart", name := "enteredInto", desc := "(II)I" } : Jvm.MethodName)) ∈ lw_all := pt_all (List.mem_of_getElem? (i := 538) (by decide +kernel)) (by decide +kernel)
theorem kw_539 : (Jvm.Cond.instanceMethod ({ cls := "PuppetTheatre$Chart", name := "enteredInto", desc := "(II)I" } : Jvm.MethodName)) ∈ lw_all := pt_all (List.mem_of_getElem? (i := 539) (by decide +kernel)) (by decide +kernel)
theorem kw_540 : (Jvm.Cond.selects "PuppetTheatre$Chart" ({ cls := "PuppetTheatre$Chart", name := "enteredInto", desc := "(II)I" } : Jvm.MethodName) ({ cls := "PuppetTheatre$Chart", name := "enteredInto", desc := "(II)I" } : Jvm.MethodName)) ∈ lw_all := pt_all (List.mem_of_getElem? (i := 540) (by decide +kernel)) (by decide +kernel)
theorem kw_541 : (Jvm.Cond.code ({ cls := "PuppetTheatre$Chart", name := "enteredInto", desc := "(II)I" } : Jvm.MethodName) prog_3_method_7_code (6 : Nat) (Option.some Jvm.ClassFile.FieldType.int)) ∈ lw_all := pt_all (List.mem_of_getElem? (i := 541) (by decide +kernel)) (by decide +kernel)
theorem kw_542 : (Jvm.Cond.methodLink "PuppetTheatre$Chart" (95 : Nat) ({ cls := "PuppetTheatre$Chart", name := "partsAside", desc := "(II)I" } : Jvm.MethodName)) ∈ lw_all := pt_all (List.mem_of_getElem? (i := 542) (by decide +kernel)) (by decide +kernel)
theorem kw_544 : (Jvm.Cond.instanceMethod ({ cls := "PuppetTheatre$Chart", name := "partsAside", desc := "(II)I" } : Jvm.MethodName)) ∈ lw_all := pt_all (List.mem_of_getElem? (i := 544) (by decide +kernel)) (by decide +kernel)
theorem kw_545 : (Jvm.Cond.code ({ cls := "PuppetTheatre$Chart", name := "partsAside", desc := "(II)I" } : Jvm.MethodName) prog_3_method_8_code (5 : Nat) (Option.some Jvm.ClassFile.FieldType.int)) ∈ lw_all := pt_all (List.mem_of_getElem? (i := 545) (by decide +kernel)) (by decide +kernel)
theorem kw_546 : (Jvm.Cond.methodLink "PuppetTheatre$Chart" (98 : Nat) ({ cls := "PuppetTheatre$Chart", name := "filled", desc := "(I)I" } : Jvm.MethodName)) ∈ lw_all := pt_all (List.mem_of_getElem? (i := 546) (by decide +kernel)) (by decide +kernel)
theorem kw_547 : (Jvm.Cond.methodLink "PuppetTheatre$Play" (146 : Nat) ({ cls := "PuppetTheatre$Play", name := "enter", desc := "(I)V" } : Jvm.MethodName)) ∈ lw_all := pt_all (List.mem_of_getElem? (i := 547) (by decide +kernel)) (by decide +kernel)
theorem kw_548 : (Jvm.Cond.methodLink "PuppetTheatre$Play" (82 : Nat) ({ cls := "PuppetTheatre$Play", name := "nextEvent", desc := "()I" } : Jvm.MethodName)) ∈ lw_all := pt_all (List.mem_of_getElem? (i := 548) (by decide +kernel)) (by decide +kernel)
theorem kw_550 : (Jvm.Cond.instanceMethod ({ cls := "PuppetTheatre$Play", name := "nextEvent", desc := "()I" } : Jvm.MethodName)) ∈ lw_all := pt_all (List.mem_of_getElem? (i := 550) (by decide +kernel)) (by decide +kernel)
theorem kw_551 : (Jvm.Cond.code ({ cls := "PuppetTheatre$Play", name := "nextEvent", desc := "()I" } : Jvm.MethodName) prog_5_method_8_code (3 : Nat) (Option.some Jvm.ClassFile.FieldType.int)) ∈ lw_all := pt_all (List.mem_of_getElem? (i := 551) (by decide +kernel)) (by decide +kernel)
theorem kw_555 : (Jvm.Cond.code ({ cls := "PuppetTheatre", name := "send", desc := "(I)I" } : Jvm.MethodName) prog_1_method_10_code (2 : Nat) (Option.some Jvm.ClassFile.FieldType.int)) ∈ lw_all := pt_all (List.mem_of_getElem? (i := 555) (by decide +kernel)) (by decide +kernel)
theorem kw_556 : (Jvm.Cond.methodLink "PuppetTheatre" (161 : Nat) ({ cls := "PuppetTheatre", name := "checkRunning", desc := "()V" } : Jvm.MethodName)) ∈ lw_all := pt_all (List.mem_of_getElem? (i := 556) (by decide +kernel)) (by decide +kernel)
theorem kw_558 : (Jvm.Cond.instanceMethod ({ cls := "PuppetTheatre", name := "checkRunning", desc := "()V" } : Jvm.MethodName)) ∈ lw_all := pt_all (List.mem_of_getElem? (i := 558) (by decide +kernel)) (by decide +kernel)
theorem kw_559 : (Jvm.Cond.code ({ cls := "PuppetTheatre", name := "checkRunning", desc := "()V" } : Jvm.MethodName) prog_1_method_38_code (1 : Nat) (Option.none : Option Jvm.ClassFile.FieldType)) ∈ lw_all := pt_all (List.mem_of_getElem? (i := 559) (by decide +kernel)) (by decide +kernel)
theorem kw_560 : (Jvm.Cond.methodLink "PuppetTheatre" (181 : Nat) ({ cls := "PuppetTheatre", name := "checkEvent", desc := "(I)V" } : Jvm.MethodName)) ∈ lw_all := pt_all (List.mem_of_getElem? (i := 560) (by decide +kernel)) (by decide +kernel)
theorem kw_561 : (Jvm.Cond.static ({ cls := "PuppetTheatre", name := "checkEvent", desc := "(I)V" } : Jvm.MethodName)) ∈ lw_all := pt_all (List.mem_of_getElem? (i := 561) (by decide +kernel)) (by decide +kernel)
theorem kw_562 : (Jvm.Cond.code ({ cls := "PuppetTheatre", name := "checkEvent", desc := "(I)V" } : Jvm.MethodName) prog_1_method_41_code (1 : Nat) (Option.none : Option Jvm.ClassFile.FieldType)) ∈ lw_all := pt_all (List.mem_of_getElem? (i := 562) (by decide +kernel)) (by decide +kernel)
theorem kw_563 : (Jvm.Cond.methodLink "PuppetTheatre" (52 : Nat) ({ cls := "PuppetTheatre", name := "isWithin", desc := "(III)Z" } : Jvm.MethodName)) ∈ lw_all := pt_all (List.mem_of_getElem? (i := 563) (by decide +kernel)) (by decide +kernel)
theorem kw_564 : (Jvm.Cond.static ({ cls := "PuppetTheatre", name := "isWithin", desc := "(III)Z" } : Jvm.MethodName)) ∈ lw_all := pt_all (List.mem_of_getElem? (i := 564) (by decide +kernel)) (by decide +kernel)
theorem kw_565 : (Jvm.Cond.code ({ cls := "PuppetTheatre", name := "isWithin", desc := "(III)Z" } : Jvm.MethodName) prog_1_method_47_code (3 : Nat) (Option.some Jvm.ClassFile.FieldType.boolean)) ∈ lw_all := pt_all (List.mem_of_getElem? (i := 565) (by decide +kernel)) (by decide +kernel)
theorem kw_584 : (Jvm.Cond.code ({ cls := "PuppetTheatre", name := "tick", desc := "(I)I" } : Jvm.MethodName) prog_1_method_11_code (4 : Nat) (Option.some Jvm.ClassFile.FieldType.int)) ∈ lw_all := pt_all (List.mem_of_getElem? (i := 584) (by decide +kernel)) (by decide +kernel)
theorem kw_586 : (Jvm.Cond.instanceMethod ({ cls := "PuppetTheatre", name := "transitions", desc := "()I" } : Jvm.MethodName)) ∈ lw_all := pt_all (List.mem_of_getElem? (i := 586) (by decide +kernel)) (by decide +kernel)
theorem kw_587 : (Jvm.Cond.selects "PuppetTheatre" ({ cls := "PuppetTheatre", name := "transitions", desc := "()I" } : Jvm.MethodName) ({ cls := "PuppetTheatre", name := "transitions", desc := "()I" } : Jvm.MethodName)) ∈ lw_all := pt_all (List.mem_of_getElem? (i := 587) (by decide +kernel)) (by decide +kernel)
theorem kw_588 : (Jvm.Cond.code ({ cls := "PuppetTheatre", name := "transitions", desc := "()I" } : Jvm.MethodName) prog_1_method_13_code (1 : Nat) (Option.some Jvm.ClassFile.FieldType.int)) ∈ lw_all := pt_all (List.mem_of_getElem? (i := 588) (by decide +kernel)) (by decide +kernel)
theorem kw_590 : (Jvm.Cond.instanceMethod ({ cls := "PuppetTheatre", name := "active", desc := "()I" } : Jvm.MethodName)) ∈ lw_all := pt_all (List.mem_of_getElem? (i := 590) (by decide +kernel)) (by decide +kernel)
theorem kw_591 : (Jvm.Cond.selects "PuppetTheatre" ({ cls := "PuppetTheatre", name := "active", desc := "()I" } : Jvm.MethodName) ({ cls := "PuppetTheatre", name := "active", desc := "()I" } : Jvm.MethodName)) ∈ lw_all := pt_all (List.mem_of_getElem? (i := 591) (by decide +kernel)) (by decide +kernel)
theorem kw_592 : (Jvm.Cond.code ({ cls := "PuppetTheatre", name := "active", desc := "()I" } : Jvm.MethodName) prog_1_method_16_code (1 : Nat) (Option.some Jvm.ClassFile.FieldType.int)) ∈ lw_all := pt_all (List.mem_of_getElem? (i := 592) (by decide +kernel)) (by decide +kernel)
theorem kw_594 : (Jvm.Cond.instanceMethod ({ cls := "PuppetTheatre", name := "isOver", desc := "()Z" } : Jvm.MethodName)) ∈ lw_all := pt_all (List.mem_of_getElem? (i := 594) (by decide +kernel)) (by decide +kernel)
theorem kw_595 : (Jvm.Cond.selects "PuppetTheatre" ({ cls := "PuppetTheatre", name := "isOver", desc := "()Z" } : Jvm.MethodName) ({ cls := "PuppetTheatre", name := "isOver", desc := "()Z" } : Jvm.MethodName)) ∈ lw_all := pt_all (List.mem_of_getElem? (i := 595) (by decide +kernel)) (by decide +kernel)
theorem kw_596 : (Jvm.Cond.code ({ cls := "PuppetTheatre", name := "isOver", desc := "()Z" } : Jvm.MethodName) prog_1_method_17_code (1 : Nat) (Option.some Jvm.ClassFile.FieldType.boolean)) ∈ lw_all := pt_all (List.mem_of_getElem? (i := 596) (by decide +kernel)) (by decide +kernel)
theorem kw_597 : (Jvm.Cond.methodLink "PuppetTheatre" (187 : Nat) ({ cls := "PuppetTheatre$Play", name := "isAtEnd", desc := "()Z" } : Jvm.MethodName)) ∈ lw_all := pt_all (List.mem_of_getElem? (i := 597) (by decide +kernel)) (by decide +kernel)
theorem kw_601 : (Jvm.Cond.code ({ cls := "PuppetTheatre", name := "isEnded", desc := "(I)Z" } : Jvm.MethodName) prog_1_method_18_code (2 : Nat) (Option.some Jvm.ClassFile.FieldType.boolean)) ∈ lw_all := pt_all (List.mem_of_getElem? (i := 601) (by decide +kernel)) (by decide +kernel)
theorem kw_602 : (Jvm.Cond.methodLink "PuppetTheatre" (48 : Nat) ({ cls := "PuppetTheatre", name := "checkState", desc := "(I)V" } : Jvm.MethodName)) ∈ lw_all := pt_all (List.mem_of_getElem? (i := 602) (by decide +kernel)) (by decide +kernel)
theorem kw_604 : (Jvm.Cond.instanceMethod ({ cls := "PuppetTheatre", name := "checkState", desc := "(I)V" } : Jvm.MethodName)) ∈ lw_all := pt_all (List.mem_of_getElem? (i := 604) (by decide +kernel)) (by decide +kernel)
theorem kw_605 : (Jvm.Cond.code ({ cls := "PuppetTheatre", name := "checkState", desc := "(I)V" } : Jvm.MethodName) prog_1_method_39_code (2 : Nat) (Option.none : Option Jvm.ClassFile.FieldType)) ∈ lw_all := pt_all (List.mem_of_getElem? (i := 605) (by decide +kernel)) (by decide +kernel)
theorem kw_621 : (Jvm.Cond.methodLink "PuppetTheatre" (190 : Nat) ({ cls := "PuppetTheatre$Chart", name := "endedAmong", desc := "(I)I" } : Jvm.MethodName)) ∈ lw_all := pt_all (List.mem_of_getElem? (i := 621) (by decide +kernel)) (by decide +kernel)
theorem kw_622 : (Jvm.Cond.methodLink "PuppetTheatre" (82 : Nat) ({ cls := "PuppetTheatre", name := "has", desc := "(II)Z" } : Jvm.MethodName)) ∈ lw_all := pt_all (List.mem_of_getElem? (i := 622) (by decide +kernel)) (by decide +kernel)
theorem kw_624 : (Jvm.Cond.instanceMethod ({ cls := "PuppetTheatre", name := "clock", desc := "()I" } : Jvm.MethodName)) ∈ lw_all := pt_all (List.mem_of_getElem? (i := 624) (by decide +kernel)) (by decide +kernel)
theorem kw_625 : (Jvm.Cond.selects "PuppetTheatre" ({ cls := "PuppetTheatre", name := "clock", desc := "()I" } : Jvm.MethodName) ({ cls := "PuppetTheatre", name := "clock", desc := "()I" } : Jvm.MethodName)) ∈ lw_all := pt_all (List.mem_of_getElem? (i := 625) (by decide +kernel)) (by decide +kernel)
theorem kw_626 : (Jvm.Cond.code ({ cls := "PuppetTheatre", name := "clock", desc := "()I" } : Jvm.MethodName) prog_1_method_22_code (1 : Nat) (Option.some Jvm.ClassFile.FieldType.int)) ∈ lw_all := pt_all (List.mem_of_getElem? (i := 626) (by decide +kernel)) (by decide +kernel)
theorem kw_628 : (Jvm.Cond.instanceMethod ({ cls := "PuppetTheatre", name := "fired", desc := "(I)I" } : Jvm.MethodName)) ∈ lw_all := pt_all (List.mem_of_getElem? (i := 628) (by decide +kernel)) (by decide +kernel)
theorem kw_629 : (Jvm.Cond.selects "PuppetTheatre" ({ cls := "PuppetTheatre", name := "fired", desc := "(I)I" } : Jvm.MethodName) ({ cls := "PuppetTheatre", name := "fired", desc := "(I)I" } : Jvm.MethodName)) ∈ lw_all := pt_all (List.mem_of_getElem? (i := 629) (by decide +kernel)) (by decide +kernel)
theorem kw_630 : (Jvm.Cond.code ({ cls := "PuppetTheatre", name := "fired", desc := "(I)I" } : Jvm.MethodName) prog_1_method_23_code (2 : Nat) (Option.some Jvm.ClassFile.FieldType.int)) ∈ lw_all := pt_all (List.mem_of_getElem? (i := 630) (by decide +kernel)) (by decide +kernel)
theorem kw_631 : (Jvm.Cond.methodLink "PuppetTheatre" (121 : Nat) ({ cls := "PuppetTheatre", name := "checkTransition", desc := "(I)V" } : Jvm.MethodName)) ∈ lw_all := pt_all (List.mem_of_getElem? (i := 631) (by decide +kernel)) (by decide +kernel)
theorem kw_633 : (Jvm.Cond.instanceMethod ({ cls := "PuppetTheatre", name := "checkTransition", desc := "(I)V" } : Jvm.MethodName)) ∈ lw_all := pt_all (List.mem_of_getElem? (i := 633) (by decide +kernel)) (by decide +kernel)
theorem kw_634 : (Jvm.Cond.code ({ cls := "PuppetTheatre", name := "checkTransition", desc := "(I)V" } : Jvm.MethodName) prog_1_method_40_code (2 : Nat) (Option.none : Option Jvm.ClassFile.FieldType)) ∈ lw_all := pt_all (List.mem_of_getElem? (i := 634) (by decide +kernel)) (by decide +kernel)
theorem kw_636 : (Jvm.Cond.instanceMethod ({ cls := "PuppetTheatre", name := "covered", desc := "()I" } : Jvm.MethodName)) ∈ lw_all := pt_all (List.mem_of_getElem? (i := 636) (by decide +kernel)) (by decide +kernel)
theorem kw_637 : (Jvm.Cond.selects "PuppetTheatre" ({ cls := "PuppetTheatre", name := "covered", desc := "()I" } : Jvm.MethodName) ({ cls := "PuppetTheatre", name := "covered", desc := "()I" } : Jvm.MethodName)) ∈ lw_all := pt_all (List.mem_of_getElem? (i := 637) (by decide +kernel)) (by decide +kernel)
theorem kw_638 : (Jvm.Cond.code ({ cls := "PuppetTheatre", name := "covered", desc := "()I" } : Jvm.MethodName) prog_1_method_24_code (3 : Nat) (Option.some Jvm.ClassFile.FieldType.int)) ∈ lw_all := pt_all (List.mem_of_getElem? (i := 638) (by decide +kernel)) (by decide +kernel)
theorem kw_640 : (Jvm.Cond.instanceMethod ({ cls := "PuppetTheatre", name := "restless", desc := "()I" } : Jvm.MethodName)) ∈ lw_all := pt_all (List.mem_of_getElem? (i := 640) (by decide +kernel)) (by decide +kernel)
theorem kw_641 : (Jvm.Cond.selects "PuppetTheatre" ({ cls := "PuppetTheatre", name := "restless", desc := "()I" } : Jvm.MethodName) ({ cls := "PuppetTheatre", name := "restless", desc := "()I" } : Jvm.MethodName)) ∈ lw_all := pt_all (List.mem_of_getElem? (i := 641) (by decide +kernel)) (by decide +kernel)
theorem kw_642 : (Jvm.Cond.code ({ cls := "PuppetTheatre", name := "restless", desc := "()I" } : Jvm.MethodName) prog_1_method_26_code (1 : Nat) (Option.some Jvm.ClassFile.FieldType.int)) ∈ lw_all := pt_all (List.mem_of_getElem? (i := 642) (by decide +kernel)) (by decide +kernel)
theorem kw_646 : (Jvm.Cond.code ({ cls := "PuppetTheatre", name := "wouldFire", desc := "(I)I" } : Jvm.MethodName) prog_1_method_27_code (2 : Nat) (Option.some Jvm.ClassFile.FieldType.int)) ∈ lw_all := pt_all (List.mem_of_getElem? (i := 646) (by decide +kernel)) (by decide +kernel)
theorem kw_647 : (Jvm.Cond.methodLink "PuppetTheatre" (218 : Nat) ({ cls := "PuppetTheatre$Situation", name := "copyFrom", desc := "(LPuppetTheatre$Situation;)V" } : Jvm.MethodName)) ∈ lw_all := pt_all (List.mem_of_getElem? (i := 647) (by decide +kernel)) (by decide +kernel)
theorem kw_648 : (Jvm.Cond.instanceMethod ({ cls := "PuppetTheatre$Situation", name := "copyFrom", desc := "(LPuppetTheatre$Situation;)V" } : Jvm.MethodName)) ∈ lw_all := pt_all (List.mem_of_getElem? (i := 648) (by decide +kernel)) (by decide +kernel)
theorem kw_649 : (Jvm.Cond.selects "PuppetTheatre$Situation" ({ cls := "PuppetTheatre$Situation", name := "copyFrom", desc := "(LPuppetTheatre$Situation;)V" } : Jvm.MethodName) ({ cls := "PuppetTheatre$Situation", name := "copyFrom", desc := "(LPuppetTheatre$Situation;)V" } : Jvm.MethodName)) ∈ lw_all := pt_all (List.mem_of_getElem? (i := 649) (by decide +kernel)) (by decide +kernel)
theorem kw_650 : (Jvm.Cond.code ({ cls := "PuppetTheatre$Situation", name := "copyFrom", desc := "(LPuppetTheatre$Situation;)V" } : Jvm.MethodName) prog_6_method_5_code (2 : Nat) (Option.none : Option Jvm.ClassFile.FieldType)) ∈ lw_all := pt_all (List.mem_of_getElem? (i := 650) (by decide +kernel)) (by decide +kernel)
theorem kw_651 : (Jvm.Cond.methodLink "PuppetTheatre$Situation" (37 : Nat) ({ cls := "java/lang/System", name := "arraycopy", desc := "(Ljava/lang/Object;ILjava/lang/Object;II)V" } : Jvm.MethodName)) ∈ lw_all := pt_all (List.mem_of_getElem? (i := 651) (by decide +kernel)) (by decide +kernel)
theorem kw_652 : (Jvm.Cond.static ({ cls := "java/lang/System", name := "arraycopy", desc := "(Ljava/lang/Object;ILjava/lang/Object;II)V" } : Jvm.MethodName)) ∈ lw_all := pt_all (List.mem_of_getElem? (i := 652) (by decide +kernel)) (by decide +kernel)
theorem kw_653 : (Jvm.Cond.native ({ cls := "java/lang/System", name := "arraycopy", desc := "(Ljava/lang/Object;ILjava/lang/Object;II)V" } : Jvm.MethodName)) ∈ lw_all := pt_all (List.mem_of_getElem? (i := 653) (by decide +kernel)) (by decide +kernel)
theorem kw_657 : (Jvm.Cond.code ({ cls := "PuppetTheatre", name := "wouldBe", desc := "(I)I" } : Jvm.MethodName) prog_1_method_28_code (2 : Nat) (Option.some Jvm.ClassFile.FieldType.int)) ∈ lw_all := pt_all (List.mem_of_getElem? (i := 657) (by decide +kernel)) (by decide +kernel)
theorem kw_661 : (Jvm.Cond.code ({ cls := "PuppetTheatre", name := "open", desc := "()I" } : Jvm.MethodName) prog_1_method_29_code (3 : Nat) (Option.some Jvm.ClassFile.FieldType.int)) ∈ lw_all := pt_all (List.mem_of_getElem? (i := 661) (by decide +kernel)) (by decide +kernel)
theorem kw_662 : (Jvm.Cond.methodLink "PuppetTheatre" (222 : Nat) ({ cls := "PuppetTheatre$Play", name := "openBy", desc := "(I)I" } : Jvm.MethodName)) ∈ lw_all := pt_all (List.mem_of_getElem? (i := 662) (by decide +kernel)) (by decide +kernel)
theorem kw_666 : (Jvm.Cond.code ({ cls := "PuppetTheatre", name := "rowTo", desc := "(II)I" } : Jvm.MethodName) prog_1_method_30_code (3 : Nat) (Option.some Jvm.ClassFile.FieldType.int)) ∈ lw_all := pt_all (List.mem_of_getElem? (i := 666) (by decide +kernel)) (by decide +kernel)
theorem kw_667 : (Jvm.Cond.methodLink "PuppetTheatre" (225 : Nat) ({ cls := "PuppetTheatre", name := "checkMost", desc := "(I)V" } : Jvm.MethodName)) ∈ lw_all := pt_all (List.mem_of_getElem? (i := 667) (by decide +kernel)) (by decide +kernel)
theorem kw_668 : (Jvm.Cond.static ({ cls := "PuppetTheatre", name := "checkMost", desc := "(I)V" } : Jvm.MethodName)) ∈ lw_all := pt_all (List.mem_of_getElem? (i := 668) (by decide +kernel)) (by decide +kernel)
theorem kw_669 : (Jvm.Cond.code ({ cls := "PuppetTheatre", name := "checkMost", desc := "(I)V" } : Jvm.MethodName) prog_1_method_42_code (1 : Nat) (Option.none : Option Jvm.ClassFile.FieldType)) ∈ lw_all := pt_all (List.mem_of_getElem? (i := 669) (by decide +kernel)) (by decide +kernel)
theorem kw_670 : (Jvm.Cond.methodLink "PuppetTheatre" (228 : Nat) ({ cls := "PuppetTheatre$Look", name := "search", desc := "(LPuppetTheatre$Situation;III)I" } : Jvm.MethodName)) ∈ lw_all := pt_all (List.mem_of_getElem? (i := 670) (by decide +kernel)) (by decide +kernel)
theorem kw_671 : (Jvm.Cond.instanceMethod ({ cls := "PuppetTheatre$Look", name := "search", desc := "(LPuppetTheatre$Situation;III)I" } : Jvm.MethodName)) ∈ lw_all := pt_all (List.mem_of_getElem? (i := 671) (by decide +kernel)) (by decide +kernel)
theorem kw_672 : (Jvm.Cond.selects "PuppetTheatre$Look" ({ cls := "PuppetTheatre$Look", name := "search", desc := "(LPuppetTheatre$Situation;III)I" } : Jvm.MethodName) ({ cls := "PuppetTheatre$Look", name := "search", desc := "(LPuppetTheatre$Situation;III)I" } : Jvm.MethodName)) ∈ lw_all := pt_all (List.mem_of_getElem? (i := 672) (by decide +kernel)) (by decide +kernel)
theorem kw_673 : (Jvm.Cond.code ({ cls := "PuppetTheatre$Look", name := "search", desc := "(LPuppetTheatre$Situation;III)I" } : Jvm.MethodName) prog_4_method_2_code (7 : Nat) (Option.some Jvm.ClassFile.FieldType.int)) ∈ lw_all := pt_all (List.mem_of_getElem? (i := 673) (by decide +kernel)) (by decide +kernel)
theorem kw_674 : (Jvm.Cond.methodLinkNest "PuppetTheatre$Look" (45 : Nat) ({ cls := "PuppetTheatre", name := "has", desc := "(II)Z" } : Jvm.MethodName) "PuppetTheatre") ∈ lw_all := pt_all (List.mem_of_getElem? (i := 674) (by decide +kernel)) (by decide +kernel)
theorem kw_675 : (Jvm.Cond.methodLink "PuppetTheatre$Look" (49 : Nat) ({ cls := "PuppetTheatre$Situation", name := "copyFrom", desc := "(LPuppetTheatre$Situation;)V" } : Jvm.MethodName)) ∈ lw_all := pt_all (List.mem_of_getElem? (i := 675) (by decide +kernel)) (by decide +kernel)
theorem kw_676 : (Jvm.Cond.methodLink "PuppetTheatre$Look" (62 : Nat) ({ cls := "PuppetTheatre$Play", name := "proceed", desc := "(I)I" } : Jvm.MethodName)) ∈ lw_all := pt_all (List.mem_of_getElem? (i := 676) (by decide +kernel)) (by decide +kernel)
theorem kw_677 : (Jvm.Cond.methodLink "PuppetTheatre$Look" (66 : Nat) ({ cls := "PuppetTheatre$Look", name := "isReached", desc := "(II)Z" } : Jvm.MethodName)) ∈ lw_all := pt_all (List.mem_of_getElem? (i := 677) (by decide +kernel)) (by decide +kernel)
theorem kw_679 : (Jvm.Cond.instanceMethod ({ cls := "PuppetTheatre$Look", name := "isReached", desc := "(II)Z" } : Jvm.MethodName)) ∈ lw_all := pt_all (List.mem_of_getElem? (i := 679) (by decide +kernel)) (by decide +kernel)
theorem kw_680 : (Jvm.Cond.code ({ cls := "PuppetTheatre$Look", name := "isReached", desc := "(II)Z" } : Jvm.MethodName) prog_4_method_3_code (3 : Nat) (Option.some Jvm.ClassFile.FieldType.boolean)) ∈ lw_all := pt_all (List.mem_of_getElem? (i := 680) (by decide +kernel)) (by decide +kernel)
theorem kw_681 : (Jvm.Cond.methodLink "PuppetTheatre$Look" (69 : Nat) ({ cls := "PuppetTheatre$Look", name := "writeRow", desc := "(II)V" } : Jvm.MethodName)) ∈ lw_all := pt_all (List.mem_of_getElem? (i := 681) (by decide +kernel)) (by decide +kernel)
theorem kw_683 : (Jvm.Cond.instanceMethod ({ cls := "PuppetTheatre$Look", name := "writeRow", desc := "(II)V" } : Jvm.MethodName)) ∈ lw_all := pt_all (List.mem_of_getElem? (i := 683) (by decide +kernel)) (by decide +kernel)
theorem kw_684 : (Jvm.Cond.code ({ cls := "PuppetTheatre$Look", name := "writeRow", desc := "(II)V" } : Jvm.MethodName) prog_4_method_5_code (5 : Nat) (Option.none : Option Jvm.ClassFile.FieldType)) ∈ lw_all := pt_all (List.mem_of_getElem? (i := 684) (by decide +kernel)) (by decide +kernel)
theorem kw_685 : (Jvm.Cond.methodLink "PuppetTheatre$Look" (73 : Nat) ({ cls := "PuppetTheatre$Look", name := "keepIfNew", desc := "(II)V" } : Jvm.MethodName)) ∈ lw_all := pt_all (List.mem_of_getElem? (i := 685) (by decide +kernel)) (by decide +kernel)
theorem kw_687 : (Jvm.Cond.instanceMethod ({ cls := "PuppetTheatre$Look", name := "keepIfNew", desc := "(II)V" } : Jvm.MethodName)) ∈ lw_all := pt_all (List.mem_of_getElem? (i := 687) (by decide +kernel)) (by decide +kernel)
theorem kw_688 : (Jvm.Cond.code ({ cls := "PuppetTheatre$Look", name := "keepIfNew", desc := "(II)V" } : Jvm.MethodName) prog_4_method_4_code (4 : Nat) (Option.none : Option Jvm.ClassFile.FieldType)) ∈ lw_all := pt_all (List.mem_of_getElem? (i := 688) (by decide +kernel)) (by decide +kernel)
theorem kw_689 : (Jvm.Cond.methodLink "PuppetTheatre$Look" (79 : Nat) ({ cls := "PuppetTheatre$Situation", name := "isSameAs", desc := "(LPuppetTheatre$Situation;)Z" } : Jvm.MethodName)) ∈ lw_all := pt_all (List.mem_of_getElem? (i := 689) (by decide +kernel)) (by decide +kernel)
theorem kw_690 : (Jvm.Cond.instanceMethod ({ cls := "PuppetTheatre$Situation", name := "isSameAs", desc := "(LPuppetTheatre$Situation;)Z" } : Jvm.MethodName)) ∈ lw_all := pt_all (List.mem_of_getElem? (i := 690) (by decide +kernel)) (by decide +kernel)
theorem kw_691 : (Jvm.Cond.selects "PuppetTheatre$Situation" ({ cls := "PuppetTheatre$Situation", name := "isSameAs", desc := "(LPuppetTheatre$Situation;)Z" } : Jvm.MethodName) ({ cls := "PuppetTheatre$Situation", name := "isSameAs", desc := "(LPuppetTheatre$Situation;)Z" } : Jvm.MethodName)) ∈ lw_all := pt_all (List.mem_of_getElem? (i := 691) (by decide +kernel)) (by decide +kernel)
theorem kw_692 : (Jvm.Cond.code ({ cls := "PuppetTheatre$Situation", name := "isSameAs", desc := "(LPuppetTheatre$Situation;)Z" } : Jvm.MethodName) prog_6_method_6_code (3 : Nat) (Option.some Jvm.ClassFile.FieldType.boolean)) ∈ lw_all := pt_all (List.mem_of_getElem? (i := 692) (by decide +kernel)) (by decide +kernel)
theorem kw_694 : (Jvm.Cond.instanceMethod ({ cls := "PuppetTheatre", name := "rowAt", desc := "(I)I" } : Jvm.MethodName)) ∈ lw_all := pt_all (List.mem_of_getElem? (i := 694) (by decide +kernel)) (by decide +kernel)
theorem kw_695 : (Jvm.Cond.selects "PuppetTheatre" ({ cls := "PuppetTheatre", name := "rowAt", desc := "(I)I" } : Jvm.MethodName) ({ cls := "PuppetTheatre", name := "rowAt", desc := "(I)I" } : Jvm.MethodName)) ∈ lw_all := pt_all (List.mem_of_getElem? (i := 695) (by decide +kernel)) (by decide +kernel)
theorem kw_696 : (Jvm.Cond.code ({ cls := "PuppetTheatre", name := "rowAt", desc := "(I)I" } : Jvm.MethodName) prog_1_method_32_code (2 : Nat) (Option.some Jvm.ClassFile.FieldType.int)) ∈ lw_all := pt_all (List.mem_of_getElem? (i := 696) (by decide +kernel)) (by decide +kernel)
theorem kw_700 : (Jvm.Cond.code ({ cls := "PuppetTheatre", name := "digest", desc := "()J" } : Jvm.MethodName) prog_1_method_35_code (4 : Nat) (Option.some Jvm.ClassFile.FieldType.long)) ∈ lw_all := pt_all (List.mem_of_getElem? (i := 700) (by decide +kernel)) (by decide +kernel)
theorem kw_701 : (Jvm.Cond.constantLong "PuppetTheatre" (241 : Nat) (58059 : Int64)) ∈ lw_all := pt_all (List.mem_of_getElem? (i := 701) (by decide +kernel)) (by decide +kernel)
theorem kw_702 : (Jvm.Cond.constantLong "PuppetTheatre" (243 : Nat) (31 : Int64)) ∈ lw_all := pt_all (List.mem_of_getElem? (i := 702) (by decide +kernel)) (by decide +kernel)
theorem kw_703 : (Jvm.Cond.methodLink "PuppetTheatre" (245 : Nat) ({ cls := "PuppetTheatre", name := "states", desc := "()I" } : Jvm.MethodName)) ∈ lw_all := pt_all (List.mem_of_getElem? (i := 703) (by decide +kernel)) (by decide +kernel)
theorem kw_704 : (Jvm.Cond.instanceMethod ({ cls := "PuppetTheatre", name := "states", desc := "()I" } : Jvm.MethodName)) ∈ lw_all := pt_all (List.mem_of_getElem? (i := 704) (by decide +kernel)) (by decide +kernel)
theorem kw_705 : (Jvm.Cond.selects "PuppetTheatre" ({ cls := "PuppetTheatre", name := "states", desc := "()I" } : Jvm.MethodName) ({ cls := "PuppetTheatre", name := "states", desc := "()I" } : Jvm.MethodName)) ∈ lw_all := pt_all (List.mem_of_getElem? (i := 705) (by decide +kernel)) (by decide +kernel)
theorem kw_706 : (Jvm.Cond.code ({ cls := "PuppetTheatre", name := "states", desc := "()I" } : Jvm.MethodName) prog_1_method_12_code (1 : Nat) (Option.some Jvm.ClassFile.FieldType.int)) ∈ lw_all := pt_all (List.mem_of_getElem? (i := 706) (by decide +kernel)) (by decide +kernel)
theorem kw_707 : (Jvm.Cond.methodLink "PuppetTheatre" (248 : Nat) ({ cls := "PuppetTheatre", name := "transitions", desc := "()I" } : Jvm.MethodName)) ∈ lw_all := pt_all (List.mem_of_getElem? (i := 707) (by decide +kernel)) (by decide +kernel)
theorem kw_708 : (Jvm.Cond.methodLink "PuppetTheatre" (250 : Nat) ({ cls := "PuppetTheatre", name := "isRunning", desc := "()Z" } : Jvm.MethodName)) ∈ lw_all := pt_all (List.mem_of_getElem? (i := 708) (by decide +kernel)) (by decide +kernel)
theorem kw_709 : (Jvm.Cond.instanceMethod ({ cls := "PuppetTheatre", name := "isRunning", desc := "()Z" } : Jvm.MethodName)) ∈ lw_all := pt_all (List.mem_of_getElem? (i := 709) (by decide +kernel)) (by decide +kernel)
theorem kw_710 : (Jvm.Cond.selects "PuppetTheatre" ({ cls := "PuppetTheatre", name := "isRunning", desc := "()Z" } : Jvm.MethodName) ({ cls := "PuppetTheatre", name := "isRunning", desc := "()Z" } : Jvm.MethodName)) ∈ lw_all := pt_all (List.mem_of_getElem? (i := 710) (by decide +kernel)) (by decide +kernel)
theorem kw_711 : (Jvm.Cond.code ({ cls := "PuppetTheatre", name := "isRunning", desc := "()Z" } : Jvm.MethodName) prog_1_method_15_code (1 : Nat) (Option.some Jvm.ClassFile.FieldType.boolean)) ∈ lw_all := pt_all (List.mem_of_getElem? (i := 711) (by decide +kernel)) (by decide +kernel)
theorem kw_712 : (Jvm.Cond.methodLink "PuppetTheatre" (253 : Nat) ({ cls := "PuppetTheatre", name := "active", desc := "()I" } : Jvm.MethodName)) ∈ lw_all := pt_all (List.mem_of_getElem? (i := 712) (by decide +kernel)) (by decide +kernel)
theorem kw_713 : (Jvm.Cond.methodLink "PuppetTheatre" (255 : Nat) ({ cls := "PuppetTheatre", name := "isOver", desc := "()Z" } : Jvm.MethodName)) ∈ lw_all := pt_all (List.mem_of_getElem? (i := 713) (by decide +kernel)) (by decide +kernel)
theorem kw_714 : (Jvm.Cond.methodLink "PuppetTheatre" (258 : Nat) ({ cls := "PuppetTheatre", name := "clock", desc := "()I" } : Jvm.MethodName)) ∈ lw_all := pt_all (List.mem_of_getElem? (i := 714) (by decide +kernel)) (by decide +kernel)
theorem kw_715 : (Jvm.Cond.methodLink "PuppetTheatre" (260 : Nat) ({ cls := "PuppetTheatre", name := "covered", desc := "()I" } : Jvm.MethodName)) ∈ lw_all := pt_all (List.mem_of_getElem? (i := 715) (by decide +kernel)) (by decide +kernel)
theorem kw_716 : (Jvm.Cond.methodLink "PuppetTheatre" (263 : Nat) ({ cls := "PuppetTheatre", name := "lost", desc := "()I" } : Jvm.MethodName)) ∈ lw_all := pt_all (List.mem_of_getElem? (i := 716) (by decide +kernel)) (by decide +kernel)
theorem kw_717 : (Jvm.Cond.instanceMethod ({ cls := "PuppetTheatre", name := "lost", desc := "()I" } : Jvm.MethodName)) ∈ lw_all := pt_all (List.mem_of_getElem? (i := 717) (by decide +kernel)) (by decide +kernel)
theorem kw_718 : (Jvm.Cond.selects "PuppetTheatre" ({ cls := "PuppetTheatre", name := "lost", desc := "()I" } : Jvm.MethodName) ({ cls := "PuppetTheatre", name := "lost", desc := "()I" } : Jvm.MethodName)) ∈ lw_all := pt_all (List.mem_of_getElem? (i := 718) (by decide +kernel)) (by decide +kernel)
theorem kw_719 : (Jvm.Cond.code ({ cls := "PuppetTheatre", name := "lost", desc := "()I" } : Jvm.MethodName) prog_1_method_25_code (1 : Nat) (Option.some Jvm.ClassFile.FieldType.int)) ∈ lw_all := pt_all (List.mem_of_getElem? (i := 719) (by decide +kernel)) (by decide +kernel)
theorem kw_720 : (Jvm.Cond.methodLink "PuppetTheatre" (265 : Nat) ({ cls := "PuppetTheatre", name := "restless", desc := "()I" } : Jvm.MethodName)) ∈ lw_all := pt_all (List.mem_of_getElem? (i := 720) (by decide +kernel)) (by decide +kernel)
theorem kw_721 : (Jvm.Cond.methodLink "PuppetTheatre" (267 : Nat) ({ cls := "PuppetTheatre", name := "looked", desc := "()I" } : Jvm.MethodName)) ∈ lw_all := pt_all (List.mem_of_getElem? (i := 721) (by decide +kernel)) (by decide +kernel)
theorem kw_722 : (Jvm.Cond.instanceMethod ({ cls := "PuppetTheatre", name := "looked", desc := "()I" } : Jvm.MethodName)) ∈ lw_all := pt_all (List.mem_of_getElem? (i := 722) (by decide +kernel)) (by decide +kernel)
theorem kw_723 : (Jvm.Cond.selects "PuppetTheatre" ({ cls := "PuppetTheatre", name := "looked", desc := "()I" } : Jvm.MethodName) ({ cls := "PuppetTheatre", name := "looked", desc := "()I" } : Jvm.MethodName)) ∈ lw_all := pt_all (List.mem_of_getElem? (i := 723) (by decide +kernel)) (by decide +kernel)
theorem kw_724 : (Jvm.Cond.code ({ cls := "PuppetTheatre", name := "looked", desc := "()I" } : Jvm.MethodName) prog_1_method_33_code (1 : Nat) (Option.some Jvm.ClassFile.FieldType.int)) ∈ lw_all := pt_all (List.mem_of_getElem? (i := 724) (by decide +kernel)) (by decide +kernel)
theorem kw_725 : (Jvm.Cond.methodLink "PuppetTheatre" (270 : Nat) ({ cls := "PuppetTheatre", name := "digestOfStates", desc := "(J)J" } : Jvm.MethodName)) ∈ lw_all := pt_all (List.mem_of_getElem? (i := 725) (by decide +kernel)) (by decide +kernel)
theorem kw_727 : (Jvm.Cond.instanceMethod ({ cls := "PuppetTheatre", name := "digestOfStates", desc := "(J)J" } : Jvm.MethodName)) ∈ lw_all := pt_all (List.mem_of_getElem? (i := 727) (by decide +kernel)) (by decide +kernel)
theorem kw_728 : (Jvm.Cond.code ({ cls := "PuppetTheatre", name := "digestOfStates", desc := "(J)J" } : Jvm.MethodName) prog_1_method_36_code (8 : Nat) (Option.some Jvm.ClassFile.FieldType.long)) ∈ lw_all := pt_all (List.mem_of_getElem? (i := 728) (by decide +kernel)) (by decide +kernel)
theorem kw_729 : (Jvm.Cond.methodLink "PuppetTheatre" (281 : Nat) ({ cls := "PuppetTheatre", name := "ofState", desc := "(II)I" } : Jvm.MethodName)) ∈ lw_all := pt_all (List.mem_of_getElem? (i := 729) (by decide +kernel)) (by decide +kernel)
theorem kw_730 : (Jvm.Cond.instanceMethod ({ cls := "PuppetTheatre", name := "ofState", desc := "(II)I" } : Jvm.MethodName)) ∈ lw_all := pt_all (List.mem_of_getElem? (i := 730) (by decide +kernel)) (by decide +kernel)
theorem kw_731 : (Jvm.Cond.selects "PuppetTheatre" ({ cls := "PuppetTheatre", name := "ofState", desc := "(II)I" } : Jvm.MethodName) ({ cls := "PuppetTheatre", name := "ofState", desc := "(II)I" } : Jvm.MethodName)) ∈ lw_all := pt_all (List.mem_of_getElem? (i := 731) (by decide +kernel)) (by decide +kernel)
theorem kw_732 : (Jvm.Cond.code ({ cls := "PuppetTheatre", name := "ofState", desc := "(II)I" } : Jvm.MethodName) prog_1_method_14_code (4 : Nat) (Option.some Jvm.ClassFile.FieldType.int)) ∈ lw_all := pt_all (List.mem_of_getElem? (i := 732) (by decide +kernel)) (by decide +kernel)
theorem kw_733 : (Jvm.Cond.methodLink "PuppetTheatre" (173 : Nat) ({ cls := "java/lang/Integer", name := "bitCount", desc := "(I)I" } : Jvm.MethodName)) ∈ lw_all := pt_all (List.mem_of_getElem? (i := 733) (by decide +kernel)) (by decide +kernel)
theorem kw_734 : (Jvm.Cond.methodLink "PuppetTheatre" (284 : Nat) ({ cls := "PuppetTheatre", name := "ageOf", desc := "(I)I" } : Jvm.MethodName)) ∈ lw_all := pt_all (List.mem_of_getElem? (i := 734) (by decide +kernel)) (by decide +kernel)
theorem kw_735 : (Jvm.Cond.instanceMethod ({ cls := "PuppetTheatre", name := "ageOf", desc := "(I)I" } : Jvm.MethodName)) ∈ lw_all := pt_all (List.mem_of_getElem? (i := 735) (by decide +kernel)) (by decide +kernel)
theorem kw_736 : (Jvm.Cond.selects "PuppetTheatre" ({ cls := "PuppetTheatre", name := "ageOf", desc := "(I)I" } : Jvm.MethodName) ({ cls := "PuppetTheatre", name := "ageOf", desc := "(I)I" } : Jvm.MethodName)) ∈ lw_all := pt_all (List.mem_of_getElem? (i := 736) (by decide +kernel)) (by decide +kernel)
theorem kw_737 : (Jvm.Cond.code ({ cls := "PuppetTheatre", name := "ageOf", desc := "(I)I" } : Jvm.MethodName) prog_1_method_19_code (2 : Nat) (Option.some Jvm.ClassFile.FieldType.int)) ∈ lw_all := pt_all (List.mem_of_getElem? (i := 737) (by decide +kernel)) (by decide +kernel)
theorem kw_738 : (Jvm.Cond.methodLink "PuppetTheatre" (92 : Nat) ({ cls := "PuppetTheatre$State", name := "isMark", desc := "()Z" } : Jvm.MethodName)) ∈ lw_all := pt_all (List.mem_of_getElem? (i := 738) (by decide +kernel)) (by decide +kernel)
theorem kw_739 : (Jvm.Cond.methodLink "PuppetTheatre" (287 : Nat) ({ cls := "PuppetTheatre", name := "record", desc := "(I)I" } : Jvm.MethodName)) ∈ lw_all := pt_all (List.mem_of_getElem? (i := 739) (by decide +kernel)) (by decide +kernel)
theorem kw_740 : (Jvm.Cond.instanceMethod ({ cls := "PuppetTheatre", name := "record", desc := "(I)I" } : Jvm.MethodName)) ∈ lw_all := pt_all (List.mem_of_getElem? (i := 740) (by decide +kernel)) (by decide +kernel)
theorem kw_741 : (Jvm.Cond.selects "PuppetTheatre" ({ cls := "PuppetTheatre", name := "record", desc := "(I)I" } : Jvm.MethodName) ({ cls := "PuppetTheatre", name := "record", desc := "(I)I" } : Jvm.MethodName)) ∈ lw_all := pt_all (List.mem_of_getElem? (i := 741) (by decide +kernel)) (by decide +kernel)
theorem kw_742 : (Jvm.Cond.code ({ cls := "PuppetTheatre", name := "record", desc := "(I)I" } : Jvm.MethodName) prog_1_method_20_code (2 : Nat) (Option.some Jvm.ClassFile.FieldType.int)) ∈ lw_all := pt_all (List.mem_of_getElem? (i := 742) (by decide +kernel)) (by decide +kernel)
theorem kw_743 : (Jvm.Cond.methodLink "PuppetTheatre" (274 : Nat) ({ cls := "PuppetTheatre", name := "variable", desc := "(I)I" } : Jvm.MethodName)) ∈ lw_all := pt_all (List.mem_of_getElem? (i := 743) (by decide +kernel)) (by decide +kernel)
theorem kw_744 : (Jvm.Cond.instanceMethod ({ cls := "PuppetTheatre", name := "variable", desc := "(I)I" } : Jvm.MethodName)) ∈ lw_all := pt_all (List.mem_of_getElem? (i := 744) (by decide +kernel)) (by decide +kernel)
theorem kw_745 : (Jvm.Cond.selects "PuppetTheatre" ({ cls := "PuppetTheatre", name := "variable", desc := "(I)I" } : Jvm.MethodName) ({ cls := "PuppetTheatre", name := "variable", desc := "(I)I" } : Jvm.MethodName)) ∈ lw_all := pt_all (List.mem_of_getElem? (i := 745) (by decide +kernel)) (by decide +kernel)
theorem kw_746 : (Jvm.Cond.code ({ cls := "PuppetTheatre", name := "variable", desc := "(I)I" } : Jvm.MethodName) prog_1_method_21_code (2 : Nat) (Option.some Jvm.ClassFile.FieldType.int)) ∈ lw_all := pt_all (List.mem_of_getElem? (i := 746) (by decide +kernel)) (by decide +kernel)
theorem kw_747 : (Jvm.Cond.methodLink "PuppetTheatre" (276 : Nat) ({ cls := "PuppetTheatre", name := "fired", desc := "(I)I" } : Jvm.MethodName)) ∈ lw_all := pt_all (List.mem_of_getElem? (i := 747) (by decide +kernel)) (by decide +kernel)
theorem kw_748 : (Jvm.Cond.methodLink "PuppetTheatre" (278 : Nat) ({ cls := "PuppetTheatre", name := "rowAt", desc := "(I)I" } : Jvm.MethodName)) ∈ lw_all := pt_all (List.mem_of_getElem? (i := 748) (by decide +kernel)) (by decide +kernel)
theorem kw_765 : (Jvm.Cond.code ({ cls := "PuppetTheatre", name := "addState", desc := "(II)I" } : Jvm.MethodName) prog_1_method_2_code (3 : Nat) (Option.some Jvm.ClassFile.FieldType.int)) ∈ lw_all := pt_all (List.mem_of_getElem? (i := 765) (by decide +kernel)) (by decide +kernel)
theorem kw_766 : (Jvm.Cond.methodLink "PuppetTheatre" (60 : Nat) ({ cls := "PuppetTheatre$State", name := "isHolder", desc := "()Z" } : Jvm.MethodName)) ∈ lw_all := pt_all (List.mem_of_getElem? (i := 766) (by decide +kernel)) (by decide +kernel)
theorem kw_767 : (Jvm.Cond.instanceMethod ({ cls := "PuppetTheatre$State", name := "isHolder", desc := "()Z" } : Jvm.MethodName)) ∈ lw_all := pt_all (List.mem_of_getElem? (i := 767) (by decide +kernel)) (by decide +kernel)
theorem kw_768 : (Jvm.Cond.selects "PuppetTheatre$State" ({ cls := "PuppetTheatre$State", name := "isHolder", desc := "()Z" } : Jvm.MethodName) ({ cls := "PuppetTheatre$State", name := "isHolder", desc := "()Z" } : Jvm.MethodName)) ∈ lw_all := pt_all (List.mem_of_getElem? (i := 768) (by decide +kernel)) (by decide +kernel)
theorem kw_769 : (Jvm.Cond.code ({ cls := "PuppetTheatre$State", name := "isHolder", desc := "()Z" } : Jvm.MethodName) prog_7_method_3_code (1 : Nat) (Option.some Jvm.ClassFile.FieldType.boolean)) ∈ lw_all := pt_all (List.mem_of_getElem? (i := 769) (by decide +kernel)) (by decide +kernel)
theorem kw_770 : (Jvm.Cond.methodLink "PuppetTheatre" (72 : Nat) ({ cls := "PuppetTheatre$Chart", name := "putState", desc := "(II)I" } : Jvm.MethodName)) ∈ lw_all := pt_all (List.mem_of_getElem? (i := 770) (by decide +kernel)) (by decide +kernel)
theorem kw_771 : (Jvm.Cond.instanceMethod ({ cls := "PuppetTheatre$Chart", name := "putState", desc := "(II)I" } : Jvm.MethodName)) ∈ lw_all := pt_all (List.mem_of_getElem? (i := 771) (by decide +kernel)) (by decide +kernel)
theorem kw_772 : (Jvm.Cond.selects "PuppetTheatre$Chart" ({ cls := "PuppetTheatre$Chart", name := "putState", desc := "(II)I" } : Jvm.MethodName) ({ cls := "PuppetTheatre$Chart", name := "putState", desc := "(II)I" } : Jvm.MethodName)) ∈ lw_all := pt_all (List.mem_of_getElem? (i := 772) (by decide +kernel)) (by decide +kernel)
theorem kw_773 : (Jvm.Cond.code ({ cls := "PuppetTheatre$Chart", name := "putState", desc := "(II)I" } : Jvm.MethodName) prog_3_method_2_code (6 : Nat) (Option.some Jvm.ClassFile.FieldType.int)) ∈ lw_all := pt_all (List.mem_of_getElem? (i := 773) (by decide +kernel)) (by decide +kernel)
theorem kw_774 : (Jvm.Cond.methodLink "PuppetTheatre$Chart" (53 : Nat) ({ cls := "PuppetTheatre$State", name := "isMark", desc := "()Z" } : Jvm.MethodName)) ∈ lw_all := pt_all (List.mem_of_getElem? (i := 774) (by decide +kernel)) (by decide +kernel)
theorem kw_775 : (Jvm.Cond.methodLink "PuppetTheatre$Chart" (57 : Nat) ({ cls := "PuppetTheatre$State", name := "putPart", desc := "(I)V" } : Jvm.MethodName)) ∈ lw_all := pt_all (List.mem_of_getElem? (i := 775) (by decide +kernel)) (by decide +kernel)
theorem kw_776 : (Jvm.Cond.instanceMethod ({ cls := "PuppetTheatre$State", name := "putPart", desc := "(I)V" } : Jvm.MethodName)) ∈ lw_all := pt_all (List.mem_of_getElem? (i := 776) (by decide +kernel)) (by decide +kernel)
theorem kw_777 : (Jvm.Cond.selects "PuppetTheatre$State" ({ cls := "PuppetTheatre$State", name := "putPart", desc := "(I)V" } : Jvm.MethodName) ({ cls := "PuppetTheatre$State", name := "putPart", desc := "(I)V" } : Jvm.MethodName)) ∈ lw_all := pt_all (List.mem_of_getElem? (i := 777) (by decide +kernel)) (by decide +kernel)
theorem kw_778 : (Jvm.Cond.code ({ cls := "PuppetTheatre$State", name := "putPart", desc := "(I)V" } : Jvm.MethodName) prog_7_method_5_code (2 : Nat) (Option.none : Option Jvm.ClassFile.FieldType)) ∈ lw_all := pt_all (List.mem_of_getElem? (i := 778) (by decide +kernel)) (by decide +kernel)
theorem kw_779 : (Jvm.Cond.methodLink "PuppetTheatre$State" (41 : Nat) ({ cls := "PuppetTheatre$State", name := "putFirst", desc := "(I)V" } : Jvm.MethodName)) ∈ lw_all := pt_all (List.mem_of_getElem? (i := 779) (by decide +kernel)) (by decide +kernel)
theorem kw_780 : (Jvm.Cond.instanceMethod ({ cls := "PuppetTheatre$State", name := "putFirst", desc := "(I)V" } : Jvm.MethodName)) ∈ lw_all := pt_all (List.mem_of_getElem? (i := 780) (by decide +kernel)) (by decide +kernel)
theorem kw_781 : (Jvm.Cond.selects "PuppetTheatre$State" ({ cls := "PuppetTheatre$State", name := "putFirst", desc := "(I)V" } : Jvm.MethodName) ({ cls := "PuppetTheatre$State", name := "putFirst", desc := "(I)V" } : Jvm.MethodName)) ∈ lw_all := pt_all (List.mem_of_getElem? (i := 781) (by decide +kernel)) (by decide +kernel)
theorem kw_782 : (Jvm.Cond.code ({ cls := "PuppetTheatre$State", name := "putFirst", desc := "(I)V" } : Jvm.MethodName) prog_7_method_4_code (2 : Nat) (Option.none : Option Jvm.ClassFile.FieldType)) ∈ lw_all := pt_all (List.mem_of_getElem? (i := 782) (by decide +kernel)) (by decide +kernel)
theorem kw_783 : (Jvm.Cond.methodLinkNest "PuppetTheatre$State" (31 : Nat) ({ cls := "PuppetTheatre", name := "setOf", desc := "(I)I" } : Jvm.MethodName) "PuppetTheatre") ∈ lw_all := pt_all (List.mem_of_getElem? (i := 783) (by decide +kernel)) (by decide +kernel)
theorem kw_790 : (Jvm.Cond.code ({ cls := "PuppetTheatre", name := "setDoing", desc := "(IZIII)I" } : Jvm.MethodName) prog_1_method_4_code (8 : Nat) (Option.some Jvm.ClassFile.FieldType.int)) ∈ lw_all := pt_all (List.mem_of_getElem? (i := 790) (by decide +kernel)) (by decide +kernel)
theorem kw_791 : (Jvm.Cond.methodLink "PuppetTheatre" (95 : Nat) ({ cls := "PuppetTheatre", name := "isAction", desc := "(III)Z" } : Jvm.MethodName)) ∈ lw_all := pt_all (List.mem_of_getElem? (i := 791) (by decide +kernel)) (by decide +kernel)
theorem kw_792 : (Jvm.Cond.static ({ cls := "PuppetTheatre", name := "isAction", desc := "(III)Z" } : Jvm.MethodName)) ∈ lw_all := pt_all (List.mem_of_getElem? (i := 792) (by decide +kernel)) (by decide +kernel)
theorem kw_793 : (Jvm.Cond.code ({ cls := "PuppetTheatre", name := "isAction", desc := "(III)Z" } : Jvm.MethodName) prog_1_method_45_code (3 : Nat) (Option.some Jvm.ClassFile.FieldType.boolean)) ∈ lw_all := pt_all (List.mem_of_getElem? (i := 793) (by decide +kernel)) (by decide +kernel)
theorem kw_794 : (Jvm.Cond.methodLink "PuppetTheatre" (290 : Nat) ({ cls := "PuppetTheatre", name := "isNumber", desc := "(I)Z" } : Jvm.MethodName)) ∈ lw_all := pt_all (List.mem_of_getElem? (i := 794) (by decide +kernel)) (by decide +kernel)
theorem kw_795 : (Jvm.Cond.static ({ cls := "PuppetTheatre", name := "isNumber", desc := "(I)Z" } : Jvm.MethodName)) ∈ lw_all := pt_all (List.mem_of_getElem? (i := 795) (by decide +kernel)) (by decide +kernel)
theorem kw_796 : (Jvm.Cond.code ({ cls := "PuppetTheatre", name := "isNumber", desc := "(I)Z" } : Jvm.MethodName) prog_1_method_46_code (1 : Nat) (Option.some Jvm.ClassFile.FieldType.boolean)) ∈ lw_all := pt_all (List.mem_of_getElem? (i := 796) (by decide +kernel)) (by decide +kernel)
theorem kw_797 : (Jvm.Cond.methodLink "PuppetTheatre" (105 : Nat) ({ cls := "PuppetTheatre$Action", name := "become", desc := "(III)I" } : Jvm.MethodName)) ∈ lw_all := pt_all (List.mem_of_getElem? (i := 797) (by decide +kernel)) (by decide +kernel)
theorem kw_798 : (Jvm.Cond.instanceMethod ({ cls := "PuppetTheatre$Action", name := "become", desc := "(III)I" } : Jvm.MethodName)) ∈ lw_all := pt_all (List.mem_of_getElem? (i := 798) (by decide +kernel)) (by decide +kernel)
theorem kw_799 : (Jvm.Cond.selects "PuppetTheatre$Action" ({ cls := "PuppetTheatre$Action", name := "become", desc := "(III)I" } : Jvm.MethodName) ({ cls := "PuppetTheatre$Action", name := "become", desc := "(III)I" } : Jvm.MethodName)) ∈ lw_all := pt_all (List.mem_of_getElem? (i := 799) (by decide +kernel)) (by decide +kernel)
theorem kw_800 : (Jvm.Cond.code ({ cls := "PuppetTheatre$Action", name := "become", desc := "(III)I" } : Jvm.MethodName) prog_2_method_2_code (5 : Nat) (Option.some Jvm.ClassFile.FieldType.int)) ∈ lw_all := pt_all (List.mem_of_getElem? (i := 800) (by decide +kernel)) (by decide +kernel)
theorem kw_804 : (Jvm.Cond.code ({ cls := "PuppetTheatre", name := "addTransition", desc := "(IIII)I" } : Jvm.MethodName) prog_1_method_5_code (5 : Nat) (Option.some Jvm.ClassFile.FieldType.int)) ∈ lw_all := pt_all (List.mem_of_getElem? (i := 804) (by decide +kernel)) (by decide +kernel)
theorem kw_805 : (Jvm.Cond.methodLink "PuppetTheatre" (114 : Nat) ({ cls := "PuppetTheatre", name := "isTrigger", desc := "(II)Z" } : Jvm.MethodName)) ∈ lw_all := pt_all (List.mem_of_getElem? (i := 805) (by decide +kernel)) (by decide +kernel)
theorem kw_806 : (Jvm.Cond.static ({ cls := "PuppetTheatre", name := "isTrigger", desc := "(II)Z" } : Jvm.MethodName)) ∈ lw_all := pt_all (List.mem_of_getElem? (i := 806) (by decide +kernel)) (by decide +kernel)
theorem kw_807 : (Jvm.Cond.code ({ cls := "PuppetTheatre", name := "isTrigger", desc := "(II)Z" } : Jvm.MethodName) prog_1_method_43_code (2 : Nat) (Option.some Jvm.ClassFile.FieldType.boolean)) ∈ lw_all := pt_all (List.mem_of_getElem? (i := 807) (by decide +kernel)) (by decide +kernel)
theorem kw_808 : (Jvm.Cond.methodLink "PuppetTheatre" (117 : Nat) ({ cls := "PuppetTheatre$Chart", name := "putTransition", desc := "(IIII)I" } : Jvm.MethodName)) ∈ lw_all := pt_all (List.mem_of_getElem? (i := 808) (by decide +kernel)) (by decide +kernel)
theorem kw_809 : (Jvm.Cond.instanceMethod ({ cls := "PuppetTheatre$Chart", name := "putTransition", desc := "(IIII)I" } : Jvm.MethodName)) ∈ lw_all := pt_all (List.mem_of_getElem? (i := 809) (by decide +kernel)) (by decide +kernel)
theorem kw_810 : (Jvm.Cond.selects "PuppetTheatre$Chart" ({ cls := "PuppetTheatre$Chart", name := "putTransition", desc := "(IIII)I" } : Jvm.MethodName) ({ cls := "PuppetTheatre$Chart", name := "putTransition", desc := "(IIII)I" } : Jvm.MethodName)) ∈ lw_all := pt_all (List.mem_of_getElem? (i := 810) (by decide +kernel)) (by decide +kernel)
theorem kw_811 : (Jvm.Cond.code ({ cls := "PuppetTheatre$Chart", name := "putTransition", desc := "(IIII)I" } : Jvm.MethodName) prog_3_method_3_code (7 : Nat) (Option.some Jvm.ClassFile.FieldType.int)) ∈ lw_all := pt_all (List.mem_of_getElem? (i := 811) (by decide +kernel)) (by decide +kernel)
theorem kw_812 : (Jvm.Cond.methodLink "PuppetTheatre$Chart" (79 : Nat) ({ cls := "PuppetTheatre$Chart", name := "scopeOf", desc := "(II)I" } : Jvm.MethodName)) ∈ lw_all := pt_all (List.mem_of_getElem? (i := 812) (by decide +kernel)) (by decide +kernel)
theorem kw_814 : (Jvm.Cond.instanceMethod ({ cls := "PuppetTheatre$Chart", name := "scopeOf", desc := "(II)I" } : Jvm.MethodName)) ∈ lw_all := pt_all (List.mem_of_getElem? (i := 814) (by decide +kernel)) (by decide +kernel)
theorem kw_815 : (Jvm.Cond.code ({ cls := "PuppetTheatre$Chart", name := "scopeOf", desc := "(II)I" } : Jvm.MethodName) prog_3_method_5_code (5 : Nat) (Option.some Jvm.ClassFile.FieldType.int)) ∈ lw_all := pt_all (List.mem_of_getElem? (i := 815) (by decide +kernel)) (by decide +kernel)
theorem kw_816 : (Jvm.Cond.methodLink "PuppetTheatre$Chart" (89 : Nat) ({ cls := "PuppetTheatre$Chart", name := "causeOf", desc := "(II)I" } : Jvm.MethodName)) ∈ lw_all := pt_all (List.mem_of_getElem? (i := 816) (by decide +kernel)) (by decide +kernel)
theorem kw_817 : (Jvm.Cond.static ({ cls := "PuppetTheatre$Chart", name := "causeOf", desc := "(II)I" } : Jvm.MethodName)) ∈ lw_all := pt_all (List.mem_of_getElem? (i := 817) (by decide +kernel)) (by decide +kernel)
theorem kw_818 : (Jvm.Cond.code ({ cls := "PuppetTheatre$Chart", name := "causeOf", desc := "(II)I" } : Jvm.MethodName) prog_3_method_4_code (2 : Nat) (Option.some Jvm.ClassFile.FieldType.int)) ∈ lw_all := pt_all (List.mem_of_getElem? (i := 818) (by decide +kernel)) (by decide +kernel)
theorem kw_822 : (Jvm.Cond.code ({ cls := "PuppetTheatre", name := "setGuard", desc := "(IIII)I" } : Jvm.MethodName) prog_1_method_6_code (7 : Nat) (Option.some Jvm.ClassFile.FieldType.int)) ∈ lw_all := pt_all (List.mem_of_getElem? (i := 822) (by decide +kernel)) (by decide +kernel)
theorem kw_823 : (Jvm.Cond.methodLink "PuppetTheatre" (124 : Nat) ({ cls := "PuppetTheatre", name := "isGuard", desc := "(III)Z" } : Jvm.MethodName)) ∈ lw_all := pt_all (List.mem_of_getElem? (i := 823) (by decide +kernel)) (by decide +kernel)
theorem kw_824 : (Jvm.Cond.static ({ cls := "PuppetTheatre", name := "isGuard", desc := "(III)Z" } : Jvm.MethodName)) ∈ lw_all := pt_all (List.mem_of_getElem? (i := 824) (by decide +kernel)) (by decide +kernel)
theorem kw_825 : (Jvm.Cond.code ({ cls := "PuppetTheatre", name := "isGuard", desc := "(III)Z" } : Jvm.MethodName) prog_1_method_44_code (3 : Nat) (Option.some Jvm.ClassFile.FieldType.boolean)) ∈ lw_all := pt_all (List.mem_of_getElem? (i := 825) (by decide +kernel)) (by decide +kernel)
theorem kw_829 : (Jvm.Cond.code ({ cls := "PuppetTheatre", name := "setAction", desc := "(IIII)I" } : Jvm.MethodName) prog_1_method_7_code (5 : Nat) (Option.some Jvm.ClassFile.FieldType.int)) ∈ lw_all := pt_all (List.mem_of_getElem? (i := 829) (by decide +kernel)) (by decide +kernel)
theorem kw_838 : (Jvm.Cond.code ({ cls := "PuppetTheatre", name := "meanAge", desc := "()D" } : Jvm.MethodName) prog_1_method_34_code (4 : Nat) (Option.some Jvm.ClassFile.FieldType.double)) ∈ lw_all := pt_all (List.mem_of_getElem? (i := 838) (by decide +kernel)) (by decide +kernel)
end
section
-- decode rows
theorem dJ6_bitCount_0f7a4_0 : decode cJ6_bitCount_0f7a4 0 = .ok (.iload_n 0, 1) := by decide +kernel
theorem dJ6_bitCount_0f7a4_1 : decode cJ6_bitCount_0f7a4 1 = .ok (.iload_n 0, 1) := by decide +kernel
theorem dJ6_bitCount_0f7a4_2 : decode cJ6_bitCount_0f7a4 2 = .ok (.iconst 1, 1) := by decide +kernel
theorem dJ6_bitCount_0f7a4_3 : decode cJ6_bitCount_0f7a4 3 = .ok (.iushr, 1) := by decide +kernel
theorem dJ6_bitCount_0f7a4_4 : decode cJ6_bitCount_0f7a4 4 = .ok (.ldc_w 265, 3) := by decide +kernel
theorem dJ6_bitCount_0f7a4_7 : decode cJ6_bitCount_0f7a4 7 = .ok (.iand, 1) := by decide +kernel
theorem dJ6_bitCount_0f7a4_8 : decode cJ6_bitCount_0f7a4 8 = .ok (.isub, 1) := by decide +kernel
theorem dJ6_bitCount_0f7a4_9 : decode cJ6_bitCount_0f7a4 9 = .ok (.istore_n 0, 1) := by decide +kernel
theorem dJ6_bitCount_0f7a4_10 : decode cJ6_bitCount_0f7a4 10 = .ok (.iload_n 0, 1) := by decide +kernel
theorem dJ6_bitCount_0f7a4_11 : decode cJ6_bitCount_0f7a4 11 = .ok (.ldc_w 266, 3) := by decide +kernel
theorem dJ6_bitCount_0f7a4_14 : decode cJ6_bitCount_0f7a4 14 = .ok (.iand, 1) := by decide +kernel
theorem dJ6_bitCount_0f7a4_15 : decode cJ6_bitCount_0f7a4 15 = .ok (.iload_n 0, 1) := by decide +kernel
theorem dJ6_bitCount_0f7a4_16 : decode cJ6_bitCount_0f7a4 16 = .ok (.iconst 2, 1) := by decide +kernel
theorem dJ6_bitCount_0f7a4_17 : decode cJ6_bitCount_0f7a4 17 = .ok (.iushr, 1) := by decide +kernel
theorem dJ6_bitCount_0f7a4_18 : decode cJ6_bitCount_0f7a4 18 = .ok (.ldc_w 266, 3) := by decide +kernel
theorem dJ6_bitCount_0f7a4_21 : decode cJ6_bitCount_0f7a4 21 = .ok (.iand, 1) := by decide +kernel
theorem dJ6_bitCount_0f7a4_22 : decode cJ6_bitCount_0f7a4 22 = .ok (.iadd, 1) := by decide +kernel
theorem dJ6_bitCount_0f7a4_23 : decode cJ6_bitCount_0f7a4 23 = .ok (.istore_n 0, 1) := by decide +kernel
theorem dJ6_bitCount_0f7a4_24 : decode cJ6_bitCount_0f7a4 24 = .ok (.iload_n 0, 1) := by decide +kernel
theorem dJ6_bitCount_0f7a4_25 : decode cJ6_bitCount_0f7a4 25 = .ok (.iload_n 0, 1) := by decide +kernel
theorem dJ6_bitCount_0f7a4_26 : decode cJ6_bitCount_0f7a4 26 = .ok (.iconst 4, 1) := by decide +kernel
theorem dJ6_bitCount_0f7a4_27 : decode cJ6_bitCount_0f7a4 27 = .ok (.iushr, 1) := by decide +kernel
theorem dJ6_bitCount_0f7a4_28 : decode cJ6_bitCount_0f7a4 28 = .ok (.iadd, 1) := by decide +kernel
theorem dJ6_bitCount_0f7a4_29 : decode cJ6_bitCount_0f7a4 29 = .ok (.ldc_w 267, 3) := by decide +kernel
theorem dJ6_bitCount_0f7a4_32 : decode cJ6_bitCount_0f7a4 32 = .ok (.iand, 1) := by decide +kernel
theorem dJ6_bitCount_0f7a4_33 : decode cJ6_bitCount_0f7a4 33 = .ok (.istore_n 0, 1) := by decide +kernel
theorem dJ6_bitCount_0f7a4_34 : decode cJ6_bitCount_0f7a4 34 = .ok (.iload_n 0, 1) := by decide +kernel
theorem dJ6_bitCount_0f7a4_35 : decode cJ6_bitCount_0f7a4 35 = .ok (.iload_n 0, 1) := by decide +kernel
theorem dJ6_bitCount_0f7a4_36 : decode cJ6_bitCount_0f7a4 36 = .ok (.bipush 8, 2) := by decide +kernel
theorem dJ6_bitCount_0f7a4_38 : decode cJ6_bitCount_0f7a4 38 = .ok (.iushr, 1) := by decide +kernel
theorem dJ6_bitCount_0f7a4_39 : decode cJ6_bitCount_0f7a4 39 = .ok (.iadd, 1) := by decide +kernel
theorem dJ6_bitCount_0f7a4_40 : decode cJ6_bitCount_0f7a4 40 = .ok (.istore_n 0, 1) := by decide +kernel
theorem dJ6_bitCount_0f7a4_41 : decode cJ6_bitCount_0f7a4 41 = .ok (.iload_n 0, 1) := by decide +kernel
theorem dJ6_bitCount_0f7a4_42 : decode cJ6_bitCount_0f7a4 42 = .ok (.iload_n 0, 1) := by decide +kernel
theorem dJ6_bitCount_0f7a4_43 : decode cJ6_bitCount_0f7a4 43 = .ok (.bipush 16, 2) := by decide +kernel
theorem dJ6_bitCount_0f7a4_45 : decode cJ6_bitCount_0f7a4 45 = .ok (.iushr, 1) := by decide +kernel
theorem dJ6_bitCount_0f7a4_46 : decode cJ6_bitCount_0f7a4 46 = .ok (.iadd, 1) := by decide +kernel
theorem dJ6_bitCount_0f7a4_47 : decode cJ6_bitCount_0f7a4 47 = .ok (.istore_n 0, 1) := by decide +kernel
theorem dJ6_bitCount_0f7a4_48 : decode cJ6_bitCount_0f7a4 48 = .ok (.iload_n 0, 1) := by decide +kernel
theorem dJ6_bitCount_0f7a4_49 : decode cJ6_bitCount_0f7a4 49 = .ok (.bipush 63, 2) := by decide +kernel
theorem dJ6_bitCount_0f7a4_51 : decode cJ6_bitCount_0f7a4 51 = .ok (.iand, 1) := by decide +kernel
theorem dJ6_bitCount_0f7a4_52 : decode cJ6_bitCount_0f7a4 52 = .ok (.ireturn, 1) := by decide +kernel
theorem dX7_has_0 : decode cX7_has 0 = .ok (.iload_n 0, 1) := by decide +kernel
theorem dX7_has_1 : decode cX7_has 1 = .ok (.iload_n 1, 1) := by decide +kernel
theorem dX7_has_2 : decode cX7_has 2 = .ok (.ishr, 1) := by decide +kernel
theorem dX7_has_3 : decode cX7_has 3 = .ok (.iconst 1, 1) := by decide +kernel
theorem dX7_has_4 : decode cX7_has 4 = .ok (.iand, 1) := by decide +kernel
theorem dX7_has_5 : decode cX7_has 5 = .ok (.ifCond .eq 7, 3) := by decide +kernel
theorem dX7_has_8 : decode cX7_has 8 = .ok (.iconst 1, 1) := by decide +kernel
theorem dX7_has_9 : decode cX7_has 9 = .ok (.goto 4, 3) := by decide +kernel
theorem dX7_has_12 : decode cX7_has 12 = .ok (.iconst 0, 1) := by decide +kernel
theorem dX7_has_13 : decode cX7_has 13 = .ok (.ireturn, 1) := by decide +kernel
theorem dX7_setOf_0 : decode cX7_setOf 0 = .ok (.iconst 1, 1) := by decide +kernel
theorem dX7_setOf_1 : decode cX7_setOf 1 = .ok (.iload_n 0, 1) := by decide +kernel
theorem dX7_setOf_2 : decode cX7_setOf 2 = .ok (.ishl, 1) := by decide +kernel
theorem dX7_setOf_3 : decode cX7_setOf 3 = .ok (.ireturn, 1) := by decide +kernel
theorem dX7_isWithin_0 : decode cX7_isWithin 0 = .ok (.iload_n 0, 1) := by decide +kernel
theorem dX7_isWithin_1 : decode cX7_isWithin 1 = .ok (.iload_n 1, 1) := by decide +kernel
theorem dX7_isWithin_2 : decode cX7_isWithin 2 = .ok (.if_icmp .lt 12, 3) := by decide +kernel
theorem dX7_isWithin_5 : decode cX7_isWithin 5 = .ok (.iload_n 0, 1) := by decide +kernel
theorem dX7_isWithin_6 : decode cX7_isWithin 6 = .ok (.iload_n 2, 1) := by decide +kernel
theorem dX7_isWithin_7 : decode cX7_isWithin 7 = .ok (.if_icmp .gt 7, 3) := by decide +kernel
theorem dX7_isWithin_10 : decode cX7_isWithin 10 = .ok (.iconst 1, 1) := by decide +kernel
theorem dX7_isWithin_11 : decode cX7_isWithin 11 = .ok (.goto 4, 3) := by decide +kernel
theorem dX7_isWithin_14 : decode cX7_isWithin 14 = .ok (.iconst 0, 1) := by decide +kernel
theorem dX7_isWithin_15 : decode cX7_isWithin 15 = .ok (.ireturn, 1) := by decide +kernel
theorem dX7_isNumber_0 : decode cX7_isNumber 0 = .ok (.iload_n 0, 1) := by decide +kernel
theorem dX7_isNumber_1 : decode cX7_isNumber 1 = .ok (.bipush (-99), 2) := by decide +kernel
theorem dX7_isNumber_3 : decode cX7_isNumber 3 = .ok (.bipush 99, 2) := by decide +kernel
theorem dX7_isNumber_5 : decode cX7_isNumber 5 = .ok (.invokestatic 52, 3) := by decide +kernel
theorem dX7_isNumber_8 : decode cX7_isNumber 8 = .ok (.ireturn, 1) := by decide +kernel
theorem dX0_become_0 : decode cX0_become 0 = .ok (.aload_n 0, 1) := by decide +kernel
theorem dX0_become_1 : decode cX0_become 1 = .ok (.getfield 7, 3) := by decide +kernel
theorem dX0_become_4 : decode cX0_become 4 = .ok (.istore 4, 2) := by decide +kernel
theorem dX0_become_6 : decode cX0_become 6 = .ok (.aload_n 0, 1) := by decide +kernel
theorem dX0_become_7 : decode cX0_become 7 = .ok (.iload_n 1, 1) := by decide +kernel
theorem dX0_become_8 : decode cX0_become 8 = .ok (.putfield 7, 3) := by decide +kernel
theorem dX0_become_11 : decode cX0_become 11 = .ok (.aload_n 0, 1) := by decide +kernel
theorem dX0_become_12 : decode cX0_become 12 = .ok (.iload_n 2, 1) := by decide +kernel
theorem dX0_become_13 : decode cX0_become 13 = .ok (.putfield 13, 3) := by decide +kernel
theorem dX0_become_16 : decode cX0_become 16 = .ok (.aload_n 0, 1) := by decide +kernel
theorem dX0_become_17 : decode cX0_become 17 = .ok (.iload_n 3, 1) := by decide +kernel
theorem dX0_become_18 : decode cX0_become 18 = .ok (.putfield 16, 3) := by decide +kernel
theorem dX0_become_21 : decode cX0_become 21 = .ok (.iload 4, 2) := by decide +kernel
theorem dX0_become_23 : decode cX0_become 23 = .ok (.ireturn, 1) := by decide +kernel
theorem dX5_isMark_0 : decode cX5_isMark 0 = .ok (.aload_n 0, 1) := by decide +kernel
theorem dX5_isMark_1 : decode cX5_isMark 1 = .ok (.getfield 21, 3) := by decide +kernel
theorem dX5_isMark_4 : decode cX5_isMark 4 = .ok (.iconst 3, 1) := by decide +kernel
theorem dX5_isMark_5 : decode cX5_isMark 5 = .ok (.if_icmp .eq 11, 3) := by decide +kernel
theorem dX5_isMark_8 : decode cX5_isMark 8 = .ok (.aload_n 0, 1) := by decide +kernel
theorem dX5_isMark_9 : decode cX5_isMark 9 = .ok (.getfield 21, 3) := by decide +kernel
theorem dX5_isMark_12 : decode cX5_isMark 12 = .ok (.iconst 4, 1) := by decide +kernel
theorem dX5_isMark_13 : decode cX5_isMark 13 = .ok (.if_icmp .ne 7, 3) := by decide +kernel
theorem dX5_isMark_16 : decode cX5_isMark 16 = .ok (.iconst 1, 1) := by decide +kernel
theorem dX5_isMark_17 : decode cX5_isMark 17 = .ok (.goto 4, 3) := by decide +kernel
theorem dX5_isMark_20 : decode cX5_isMark 20 = .ok (.iconst 0, 1) := by decide +kernel
theorem dX5_isMark_21 : decode cX5_isMark 21 = .ok (.ireturn, 1) := by decide +kernel
theorem dX5_isHolder_0 : decode cX5_isHolder 0 = .ok (.aload_n 0, 1) := by decide +kernel
theorem dX5_isHolder_1 : decode cX5_isHolder 1 = .ok (.getfield 21, 3) := by decide +kernel
theorem dX5_isHolder_4 : decode cX5_isHolder 4 = .ok (.ifCond .eq 11, 3) := by decide +kernel
theorem dX5_isHolder_7 : decode cX5_isHolder 7 = .ok (.aload_n 0, 1) := by decide +kernel
theorem dX5_isHolder_8 : decode cX5_isHolder 8 = .ok (.getfield 21, 3) := by decide +kernel
theorem dX5_isHolder_11 : decode cX5_isHolder 11 = .ok (.iconst 1, 1) := by decide +kernel
theorem dX5_isHolder_12 : decode cX5_isHolder 12 = .ok (.if_icmp .ne 7, 3) := by decide +kernel
theorem dX5_isHolder_15 : decode cX5_isHolder 15 = .ok (.iconst 1, 1) := by decide +kernel
theorem dX5_isHolder_16 : decode cX5_isHolder 16 = .ok (.goto 4, 3) := by decide +kernel
theorem dX5_isHolder_19 : decode cX5_isHolder 19 = .ok (.iconst 0, 1) := by decide +kernel
theorem dX5_isHolder_20 : decode cX5_isHolder 20 = .ok (.ireturn, 1) := by decide +kernel
theorem dX5_putFirst_0 : decode cX5_putFirst 0 = .ok (.aload_n 0, 1) := by decide +kernel
theorem dX5_putFirst_1 : decode cX5_putFirst 1 = .ok (.iload_n 1, 1) := by decide +kernel
theorem dX5_putFirst_2 : decode cX5_putFirst 2 = .ok (.putfield 28, 3) := by decide +kernel
theorem dX5_putFirst_5 : decode cX5_putFirst 5 = .ok (.aload_n 0, 1) := by decide +kernel
theorem dX5_putFirst_6 : decode cX5_putFirst 6 = .ok (.iload_n 1, 1) := by decide +kernel
theorem dX5_putFirst_7 : decode cX5_putFirst 7 = .ok (.invokestatic 31, 3) := by decide +kernel
theorem dX5_putFirst_10 : decode cX5_putFirst 10 = .ok (.putfield 35, 3) := by decide +kernel
theorem dX5_putFirst_13 : decode cX5_putFirst 13 = .ok (.return_, 1) := by decide +kernel
theorem dX5_putPart_0 : decode cX5_putPart 0 = .ok (.aload_n 0, 1) := by decide +kernel
theorem dX5_putPart_1 : decode cX5_putPart 1 = .ok (.getfield 21, 3) := by decide +kernel
theorem dX5_putPart_4 : decode cX5_putPart 4 = .ok (.ifCond .ne 15, 3) := by decide +kernel
theorem dX5_putPart_7 : decode cX5_putPart 7 = .ok (.aload_n 0, 1) := by decide +kernel
theorem dX5_putPart_8 : decode cX5_putPart 8 = .ok (.getfield 38, 3) := by decide +kernel
theorem dX5_putPart_11 : decode cX5_putPart 11 = .ok (.ifCond .ne 8, 3) := by decide +kernel
theorem dX5_putPart_14 : decode cX5_putPart 14 = .ok (.aload_n 0, 1) := by decide +kernel
theorem dX5_putPart_15 : decode cX5_putPart 15 = .ok (.iload_n 1, 1) := by decide +kernel
theorem dX5_putPart_16 : decode cX5_putPart 16 = .ok (.invokevirtual 41, 3) := by decide +kernel
theorem dX5_putPart_19 : decode cX5_putPart 19 = .ok (.aload_n 0, 1) := by decide +kernel
theorem dX5_putPart_20 : decode cX5_putPart 20 = .ok (.dup, 1) := by decide +kernel
theorem dX5_putPart_21 : decode cX5_putPart 21 = .ok (.getfield 38, 3) := by decide +kernel
theorem dX5_putPart_24 : decode cX5_putPart 24 = .ok (.iload_n 1, 1) := by decide +kernel
theorem dX5_putPart_25 : decode cX5_putPart 25 = .ok (.invokestatic 31, 3) := by decide +kernel
theorem dX5_putPart_28 : decode cX5_putPart 28 = .ok (.ior, 1) := by decide +kernel
theorem dX5_putPart_29 : decode cX5_putPart 29 = .ok (.putfield 38, 3) := by decide +kernel
theorem dX5_putPart_32 : decode cX5_putPart 32 = .ok (.aload_n 0, 1) := by decide +kernel
theorem dX5_putPart_33 : decode cX5_putPart 33 = .ok (.getfield 21, 3) := by decide +kernel
theorem dX5_putPart_36 : decode cX5_putPart 36 = .ok (.iconst 1, 1) := by decide +kernel
theorem dX5_putPart_37 : decode cX5_putPart 37 = .ok (.if_icmp .ne 11, 3) := by decide +kernel
theorem dX5_putPart_40 : decode cX5_putPart 40 = .ok (.aload_n 0, 1) := by decide +kernel
theorem dX5_putPart_41 : decode cX5_putPart 41 = .ok (.aload_n 0, 1) := by decide +kernel
theorem dX5_putPart_42 : decode cX5_putPart 42 = .ok (.getfield 38, 3) := by decide +kernel
theorem dX5_putPart_45 : decode cX5_putPart 45 = .ok (.putfield 35, 3) := by decide +kernel
theorem dX5_putPart_48 : decode cX5_putPart 48 = .ok (.return_, 1) := by decide +kernel
theorem dX6_isAllowed_0 : decode cX6_isAllowed 0 = .ok (.aload_n 0, 1) := by decide +kernel
theorem dX6_isAllowed_1 : decode cX6_isAllowed 1 = .ok (.getfield 25, 3) := by decide +kernel
theorem dX6_isAllowed_4 : decode cX6_isAllowed 4 = .ok (.tableswitch 85 1 3 #[28, 47, 66], 28) := by decide +kernel
theorem dX6_isAllowed_32 : decode cX6_isAllowed 32 = .ok (.aload_n 1, 1) := by decide +kernel
theorem dX6_isAllowed_33 : decode cX6_isAllowed 33 = .ok (.aload_n 0, 1) := by decide +kernel
theorem dX6_isAllowed_34 : decode cX6_isAllowed 34 = .ok (.getfield 28, 3) := by decide +kernel
theorem dX6_isAllowed_37 : decode cX6_isAllowed 37 = .ok (.iaload, 1) := by decide +kernel
theorem dX6_isAllowed_38 : decode cX6_isAllowed 38 = .ok (.aload_n 0, 1) := by decide +kernel
theorem dX6_isAllowed_39 : decode cX6_isAllowed 39 = .ok (.getfield 31, 3) := by decide +kernel
theorem dX6_isAllowed_42 : decode cX6_isAllowed 42 = .ok (.if_icmp .ge 7, 3) := by decide +kernel
theorem dX6_isAllowed_45 : decode cX6_isAllowed 45 = .ok (.iconst 1, 1) := by decide +kernel
theorem dX6_isAllowed_46 : decode cX6_isAllowed 46 = .ok (.goto 4, 3) := by decide +kernel
theorem dX6_isAllowed_49 : decode cX6_isAllowed 49 = .ok (.iconst 0, 1) := by decide +kernel
theorem dX6_isAllowed_50 : decode cX6_isAllowed 50 = .ok (.ireturn, 1) := by decide +kernel
theorem dX6_isAllowed_51 : decode cX6_isAllowed 51 = .ok (.aload_n 1, 1) := by decide +kernel
theorem dX6_isAllowed_52 : decode cX6_isAllowed 52 = .ok (.aload_n 0, 1) := by decide +kernel
theorem dX6_isAllowed_53 : decode cX6_isAllowed 53 = .ok (.getfield 28, 3) := by decide +kernel
theorem dX6_isAllowed_56 : decode cX6_isAllowed 56 = .ok (.iaload, 1) := by decide +kernel
theorem dX6_isAllowed_57 : decode cX6_isAllowed 57 = .ok (.aload_n 0, 1) := by decide +kernel
theorem dX6_isAllowed_58 : decode cX6_isAllowed 58 = .ok (.getfield 31, 3) := by decide +kernel
theorem dX6_isAllowed_61 : decode cX6_isAllowed 61 = .ok (.if_icmp .ne 7, 3) := by decide +kernel
theorem dX6_isAllowed_64 : decode cX6_isAllowed 64 = .ok (.iconst 1, 1) := by decide +kernel
theorem dX6_isAllowed_65 : decode cX6_isAllowed 65 = .ok (.goto 4, 3) := by decide +kernel
theorem dX6_isAllowed_68 : decode cX6_isAllowed 68 = .ok (.iconst 0, 1) := by decide +kernel
theorem dX6_isAllowed_69 : decode cX6_isAllowed 69 = .ok (.ireturn, 1) := by decide +kernel
theorem dX6_isAllowed_70 : decode cX6_isAllowed 70 = .ok (.aload_n 1, 1) := by decide +kernel
theorem dX6_isAllowed_71 : decode cX6_isAllowed 71 = .ok (.aload_n 0, 1) := by decide +kernel
theorem dX6_isAllowed_72 : decode cX6_isAllowed 72 = .ok (.getfield 28, 3) := by decide +kernel
theorem dX6_isAllowed_75 : decode cX6_isAllowed 75 = .ok (.iaload, 1) := by decide +kernel
theorem dX6_isAllowed_76 : decode cX6_isAllowed 76 = .ok (.aload_n 0, 1) := by decide +kernel
theorem dX6_isAllowed_77 : decode cX6_isAllowed 77 = .ok (.getfield 31, 3) := by decide +kernel
theorem dX6_isAllowed_80 : decode cX6_isAllowed 80 = .ok (.if_icmp .le 7, 3) := by decide +kernel
theorem dX6_isAllowed_83 : decode cX6_isAllowed 83 = .ok (.iconst 1, 1) := by decide +kernel
theorem dX6_isAllowed_84 : decode cX6_isAllowed 84 = .ok (.goto 4, 3) := by decide +kernel
theorem dX6_isAllowed_87 : decode cX6_isAllowed 87 = .ok (.iconst 0, 1) := by decide +kernel
theorem dX6_isAllowed_88 : decode cX6_isAllowed 88 = .ok (.ireturn, 1) := by decide +kernel
theorem dX6_isAllowed_89 : decode cX6_isAllowed 89 = .ok (.iconst 1, 1) := by decide +kernel
theorem dX6_isAllowed_90 : decode cX6_isAllowed 90 = .ok (.ireturn, 1) := by decide +kernel
theorem dX4_deactivate_0 : decode cX4_deactivate 0 = .ok (.aload_n 0, 1) := by decide +kernel
theorem dX4_deactivate_1 : decode cX4_deactivate 1 = .ok (.iconst 0, 1) := by decide +kernel
theorem dX4_deactivate_2 : decode cX4_deactivate 2 = .ok (.putfield 21, 3) := by decide +kernel
theorem dX4_deactivate_5 : decode cX4_deactivate 5 = .ok (.iconst 0, 1) := by decide +kernel
theorem dX4_deactivate_6 : decode cX4_deactivate 6 = .ok (.istore_n 1, 1) := by decide +kernel
theorem dX4_deactivate_7 : decode cX4_deactivate 7 = .ok (.iload_n 1, 1) := by decide +kernel
theorem dX4_deactivate_8 : decode cX4_deactivate 8 = .ok (.aload_n 0, 1) := by decide +kernel
theorem dX4_deactivate_9 : decode cX4_deactivate 9 = .ok (.getfield 9, 3) := by decide +kernel
theorem dX4_deactivate_12 : decode cX4_deactivate 12 = .ok (.arraylength, 1) := by decide +kernel
theorem dX4_deactivate_13 : decode cX4_deactivate 13 = .ok (.if_icmp .ge 16, 3) := by decide +kernel
theorem dX4_deactivate_16 : decode cX4_deactivate 16 = .ok (.aload_n 0, 1) := by decide +kernel
theorem dX4_deactivate_17 : decode cX4_deactivate 17 = .ok (.getfield 9, 3) := by decide +kernel
theorem dX4_deactivate_20 : decode cX4_deactivate 20 = .ok (.iload_n 1, 1) := by decide +kernel
theorem dX4_deactivate_21 : decode cX4_deactivate 21 = .ok (.iconst (-1), 1) := by decide +kernel
theorem dX4_deactivate_22 : decode cX4_deactivate 22 = .ok (.iastore, 1) := by decide +kernel
theorem dX4_deactivate_23 : decode cX4_deactivate 23 = .ok (.iinc 1 1, 3) := by decide +kernel
theorem dX4_deactivate_26 : decode cX4_deactivate 26 = .ok (.goto (-19), 3) := by decide +kernel
theorem dX4_deactivate_29 : decode cX4_deactivate 29 = .ok (.return_, 1) := by decide +kernel
theorem dX4_clear_0 : decode cX4_clear 0 = .ok (.aload_n 0, 1) := by decide +kernel
theorem dX4_clear_1 : decode cX4_clear 1 = .ok (.invokevirtual 25, 3) := by decide +kernel
theorem dX4_clear_4 : decode cX4_clear 4 = .ok (.iconst 0, 1) := by decide +kernel
theorem dX4_clear_5 : decode cX4_clear 5 = .ok (.istore_n 1, 1) := by decide +kernel
theorem dX4_clear_6 : decode cX4_clear 6 = .ok (.iload_n 1, 1) := by decide +kernel
theorem dX4_clear_7 : decode cX4_clear 7 = .ok (.aload_n 0, 1) := by decide +kernel
theorem dX4_clear_8 : decode cX4_clear 8 = .ok (.getfield 15, 3) := by decide +kernel
theorem dX4_clear_11 : decode cX4_clear 11 = .ok (.arraylength, 1) := by decide +kernel
theorem dX4_clear_12 : decode cX4_clear 12 = .ok (.if_icmp .ge 16, 3) := by decide +kernel
theorem dX4_clear_15 : decode cX4_clear 15 = .ok (.aload_n 0, 1) := by decide +kernel
theorem dX4_clear_16 : decode cX4_clear 16 = .ok (.getfield 15, 3) := by decide +kernel
theorem dX4_clear_19 : decode cX4_clear 19 = .ok (.iload_n 1, 1) := by decide +kernel
theorem dX4_clear_20 : decode cX4_clear 20 = .ok (.iconst 0, 1) := by decide +kernel
theorem dX4_clear_21 : decode cX4_clear 21 = .ok (.iastore, 1) := by decide +kernel
theorem dX4_clear_22 : decode cX4_clear 22 = .ok (.iinc 1 1, 3) := by decide +kernel
theorem dX4_clear_25 : decode cX4_clear 25 = .ok (.goto (-19), 3) := by decide +kernel
theorem dX4_clear_28 : decode cX4_clear 28 = .ok (.iconst 0, 1) := by decide +kernel
theorem dX4_clear_29 : decode cX4_clear 29 = .ok (.istore_n 1, 1) := by decide +kernel
theorem dX4_clear_30 : decode cX4_clear 30 = .ok (.iload_n 1, 1) := by decide +kernel
theorem dX4_clear_31 : decode cX4_clear 31 = .ok (.aload_n 0, 1) := by decide +kernel
theorem dX4_clear_32 : decode cX4_clear 32 = .ok (.getfield 18, 3) := by decide +kernel
theorem dX4_clear_35 : decode cX4_clear 35 = .ok (.arraylength, 1) := by decide +kernel
theorem dX4_clear_36 : decode cX4_clear 36 = .ok (.if_icmp .ge 16, 3) := by decide +kernel
theorem dX4_clear_39 : decode cX4_clear 39 = .ok (.aload_n 0, 1) := by decide +kernel
theorem dX4_clear_40 : decode cX4_clear 40 = .ok (.getfield 18, 3) := by decide +kernel
theorem dX4_clear_43 : decode cX4_clear 43 = .ok (.iload_n 1, 1) := by decide +kernel
theorem dX4_clear_44 : decode cX4_clear 44 = .ok (.iconst 0, 1) := by decide +kernel
theorem dX4_clear_45 : decode cX4_clear 45 = .ok (.iastore, 1) := by decide +kernel
theorem dX4_clear_46 : decode cX4_clear 46 = .ok (.iinc 1 1, 3) := by decide +kernel
theorem dX4_clear_49 : decode cX4_clear 49 = .ok (.goto (-19), 3) := by decide +kernel
theorem dX4_clear_52 : decode cX4_clear 52 = .ok (.return_, 1) := by decide +kernel
theorem dX4_add_0 : decode cX4_add 0 = .ok (.aload_n 0, 1) := by decide +kernel
theorem dX4_add_1 : decode cX4_add 1 = .ok (.getfield 18, 3) := by decide +kernel
theorem dX4_add_4 : decode cX4_add 4 = .ok (.iload_n 1, 1) := by decide +kernel
theorem dX4_add_5 : decode cX4_add 5 = .ok (.iaload, 1) := by decide +kernel
theorem dX4_add_6 : decode cX4_add 6 = .ok (.iload_n 2, 1) := by decide +kernel
theorem dX4_add_7 : decode cX4_add 7 = .ok (.iadd, 1) := by decide +kernel
theorem dX4_add_8 : decode cX4_add 8 = .ok (.istore_n 3, 1) := by decide +kernel
theorem dX4_add_9 : decode cX4_add 9 = .ok (.aload_n 0, 1) := by decide +kernel
theorem dX4_add_10 : decode cX4_add 10 = .ok (.getfield 18, 3) := by decide +kernel
theorem dX4_add_13 : decode cX4_add 13 = .ok (.iload_n 1, 1) := by decide +kernel
theorem dX4_add_14 : decode cX4_add 14 = .ok (.bipush (-99), 2) := by decide +kernel
theorem dX4_add_16 : decode cX4_add 16 = .ok (.bipush 99, 2) := by decide +kernel
theorem dX4_add_18 : decode cX4_add 18 = .ok (.iload_n 3, 1) := by decide +kernel
theorem dX4_add_19 : decode cX4_add 19 = .ok (.invokestatic 28, 3) := by decide +kernel
theorem dX4_add_22 : decode cX4_add 22 = .ok (.invokestatic 34, 3) := by decide +kernel
theorem dX4_add_25 : decode cX4_add 25 = .ok (.iastore, 1) := by decide +kernel
theorem dX4_add_26 : decode cX4_add 26 = .ok (.return_, 1) := by decide +kernel
theorem dX4_copyFrom_0 : decode cX4_copyFrom 0 = .ok (.aload_n 0, 1) := by decide +kernel
theorem dX4_copyFrom_1 : decode cX4_copyFrom 1 = .ok (.aload_n 1, 1) := by decide +kernel
theorem dX4_copyFrom_2 : decode cX4_copyFrom 2 = .ok (.getfield 21, 3) := by decide +kernel
theorem dX4_copyFrom_5 : decode cX4_copyFrom 5 = .ok (.putfield 21, 3) := by decide +kernel
theorem dX4_copyFrom_8 : decode cX4_copyFrom 8 = .ok (.aload_n 1, 1) := by decide +kernel
theorem dX4_copyFrom_9 : decode cX4_copyFrom 9 = .ok (.getfield 9, 3) := by decide +kernel
theorem dX4_copyFrom_12 : decode cX4_copyFrom 12 = .ok (.iconst 0, 1) := by decide +kernel
theorem dX4_copyFrom_13 : decode cX4_copyFrom 13 = .ok (.aload_n 0, 1) := by decide +kernel
theorem dX4_copyFrom_14 : decode cX4_copyFrom 14 = .ok (.getfield 9, 3) := by decide +kernel
theorem dX4_copyFrom_17 : decode cX4_copyFrom 17 = .ok (.iconst 0, 1) := by decide +kernel
theorem dX4_copyFrom_18 : decode cX4_copyFrom 18 = .ok (.aload_n 0, 1) := by decide +kernel
theorem dX4_copyFrom_19 : decode cX4_copyFrom 19 = .ok (.getfield 9, 3) := by decide +kernel
theorem dX4_copyFrom_22 : decode cX4_copyFrom 22 = .ok (.arraylength, 1) := by decide +kernel
theorem dX4_copyFrom_23 : decode cX4_copyFrom 23 = .ok (.invokestatic 37, 3) := by decide +kernel
theorem dX4_copyFrom_26 : decode cX4_copyFrom 26 = .ok (.aload_n 1, 1) := by decide +kernel
theorem dX4_copyFrom_27 : decode cX4_copyFrom 27 = .ok (.getfield 15, 3) := by decide +kernel
theorem dX4_copyFrom_30 : decode cX4_copyFrom 30 = .ok (.iconst 0, 1) := by decide +kernel
theorem dX4_copyFrom_31 : decode cX4_copyFrom 31 = .ok (.aload_n 0, 1) := by decide +kernel
theorem dX4_copyFrom_32 : decode cX4_copyFrom 32 = .ok (.getfield 15, 3) := by decide +kernel
theorem dX4_copyFrom_35 : decode cX4_copyFrom 35 = .ok (.iconst 0, 1) := by decide +kernel
theorem dX4_copyFrom_36 : decode cX4_copyFrom 36 = .ok (.aload_n 0, 1) := by decide +kernel
theorem dX4_copyFrom_37 : decode cX4_copyFrom 37 = .ok (.getfield 15, 3) := by decide +kernel
theorem dX4_copyFrom_40 : decode cX4_copyFrom 40 = .ok (.arraylength, 1) := by decide +kernel
theorem dX4_copyFrom_41 : decode cX4_copyFrom 41 = .ok (.invokestatic 37, 3) := by decide +kernel
theorem dX4_copyFrom_44 : decode cX4_copyFrom 44 = .ok (.aload_n 1, 1) := by decide +kernel
theorem dX4_copyFrom_45 : decode cX4_copyFrom 45 = .ok (.getfield 18, 3) := by decide +kernel
theorem dX4_copyFrom_48 : decode cX4_copyFrom 48 = .ok (.iconst 0, 1) := by decide +kernel
theorem dX4_copyFrom_49 : decode cX4_copyFrom 49 = .ok (.aload_n 0, 1) := by decide +kernel
theorem dX4_copyFrom_50 : decode cX4_copyFrom 50 = .ok (.getfield 18, 3) := by decide +kernel
theorem dX4_copyFrom_53 : decode cX4_copyFrom 53 = .ok (.iconst 0, 1) := by decide +kernel
theorem dX4_copyFrom_54 : decode cX4_copyFrom 54 = .ok (.aload_n 0, 1) := by decide +kernel
theorem dX4_copyFrom_55 : decode cX4_copyFrom 55 = .ok (.getfield 18, 3) := by decide +kernel
theorem dX4_copyFrom_58 : decode cX4_copyFrom 58 = .ok (.arraylength, 1) := by decide +kernel
theorem dX4_copyFrom_59 : decode cX4_copyFrom 59 = .ok (.invokestatic 37, 3) := by decide +kernel
theorem dX4_copyFrom_62 : decode cX4_copyFrom 62 = .ok (.return_, 1) := by decide +kernel
theorem dX4_isSameAs_0 : decode cX4_isSameAs 0 = .ok (.aload_n 0, 1) := by decide +kernel
theorem dX4_isSameAs_1 : decode cX4_isSameAs 1 = .ok (.getfield 21, 3) := by decide +kernel
theorem dX4_isSameAs_4 : decode cX4_isSameAs 4 = .ok (.aload_n 1, 1) := by decide +kernel
theorem dX4_isSameAs_5 : decode cX4_isSameAs 5 = .ok (.getfield 21, 3) := by decide +kernel
theorem dX4_isSameAs_8 : decode cX4_isSameAs 8 = .ok (.if_icmp .eq 5, 3) := by decide +kernel
theorem dX4_isSameAs_11 : decode cX4_isSameAs 11 = .ok (.iconst 0, 1) := by decide +kernel
theorem dX4_isSameAs_12 : decode cX4_isSameAs 12 = .ok (.ireturn, 1) := by decide +kernel
theorem dX4_isSameAs_13 : decode cX4_isSameAs 13 = .ok (.iconst 0, 1) := by decide +kernel
theorem dX4_isSameAs_14 : decode cX4_isSameAs 14 = .ok (.istore_n 2, 1) := by decide +kernel
theorem dX4_isSameAs_15 : decode cX4_isSameAs 15 = .ok (.iload_n 2, 1) := by decide +kernel
theorem dX4_isSameAs_16 : decode cX4_isSameAs 16 = .ok (.aload_n 0, 1) := by decide +kernel
theorem dX4_isSameAs_17 : decode cX4_isSameAs 17 = .ok (.getfield 18, 3) := by decide +kernel
theorem dX4_isSameAs_20 : decode cX4_isSameAs 20 = .ok (.arraylength, 1) := by decide +kernel
theorem dX4_isSameAs_21 : decode cX4_isSameAs 21 = .ok (.if_icmp .ge 26, 3) := by decide +kernel
theorem dX4_isSameAs_24 : decode cX4_isSameAs 24 = .ok (.aload_n 0, 1) := by decide +kernel
theorem dX4_isSameAs_25 : decode cX4_isSameAs 25 = .ok (.getfield 18, 3) := by decide +kernel
theorem dX4_isSameAs_28 : decode cX4_isSameAs 28 = .ok (.iload_n 2, 1) := by decide +kernel
theorem dX4_isSameAs_29 : decode cX4_isSameAs 29 = .ok (.iaload, 1) := by decide +kernel
theorem dX4_isSameAs_30 : decode cX4_isSameAs 30 = .ok (.aload_n 1, 1) := by decide +kernel
theorem dX4_isSameAs_31 : decode cX4_isSameAs 31 = .ok (.getfield 18, 3) := by decide +kernel
theorem dX4_isSameAs_34 : decode cX4_isSameAs 34 = .ok (.iload_n 2, 1) := by decide +kernel
theorem dX4_isSameAs_35 : decode cX4_isSameAs 35 = .ok (.iaload, 1) := by decide +kernel
theorem dX4_isSameAs_36 : decode cX4_isSameAs 36 = .ok (.if_icmp .eq 5, 3) := by decide +kernel
theorem dX4_isSameAs_39 : decode cX4_isSameAs 39 = .ok (.iconst 0, 1) := by decide +kernel
theorem dX4_isSameAs_40 : decode cX4_isSameAs 40 = .ok (.ireturn, 1) := by decide +kernel
theorem dX4_isSameAs_41 : decode cX4_isSameAs 41 = .ok (.iinc 2 1, 3) := by decide +kernel
theorem dX4_isSameAs_44 : decode cX4_isSameAs 44 = .ok (.goto (-29), 3) := by decide +kernel
theorem dX4_isSameAs_47 : decode cX4_isSameAs 47 = .ok (.iconst 0, 1) := by decide +kernel
theorem dX4_isSameAs_48 : decode cX4_isSameAs 48 = .ok (.istore_n 2, 1) := by decide +kernel
theorem dX4_isSameAs_49 : decode cX4_isSameAs 49 = .ok (.iload_n 2, 1) := by decide +kernel
theorem dX4_isSameAs_50 : decode cX4_isSameAs 50 = .ok (.aload_n 0, 1) := by decide +kernel
theorem dX4_isSameAs_51 : decode cX4_isSameAs 51 = .ok (.getfield 9, 3) := by decide +kernel
theorem dX4_isSameAs_54 : decode cX4_isSameAs 54 = .ok (.arraylength, 1) := by decide +kernel
theorem dX4_isSameAs_55 : decode cX4_isSameAs 55 = .ok (.if_icmp .ge 51, 3) := by decide +kernel
theorem dX4_isSameAs_58 : decode cX4_isSameAs 58 = .ok (.aload_n 0, 1) := by decide +kernel
theorem dX4_isSameAs_59 : decode cX4_isSameAs 59 = .ok (.getfield 9, 3) := by decide +kernel
theorem dX4_isSameAs_62 : decode cX4_isSameAs 62 = .ok (.iload_n 2, 1) := by decide +kernel
theorem dX4_isSameAs_63 : decode cX4_isSameAs 63 = .ok (.iaload, 1) := by decide +kernel
theorem dX4_isSameAs_64 : decode cX4_isSameAs 64 = .ok (.bipush 50, 2) := by decide +kernel
theorem dX4_isSameAs_66 : decode cX4_isSameAs 66 = .ok (.invokestatic 28, 3) := by decide +kernel
theorem dX4_isSameAs_69 : decode cX4_isSameAs 69 = .ok (.aload_n 1, 1) := by decide +kernel
theorem dX4_isSameAs_70 : decode cX4_isSameAs 70 = .ok (.getfield 9, 3) := by decide +kernel
theorem dX4_isSameAs_73 : decode cX4_isSameAs 73 = .ok (.iload_n 2, 1) := by decide +kernel
theorem dX4_isSameAs_74 : decode cX4_isSameAs 74 = .ok (.iaload, 1) := by decide +kernel
theorem dX4_isSameAs_75 : decode cX4_isSameAs 75 = .ok (.bipush 50, 2) := by decide +kernel
theorem dX4_isSameAs_77 : decode cX4_isSameAs 77 = .ok (.invokestatic 28, 3) := by decide +kernel
theorem dX4_isSameAs_80 : decode cX4_isSameAs 80 = .ok (.if_icmp .ne 18, 3) := by decide +kernel
theorem dX4_isSameAs_83 : decode cX4_isSameAs 83 = .ok (.aload_n 0, 1) := by decide +kernel
theorem dX4_isSameAs_84 : decode cX4_isSameAs 84 = .ok (.getfield 15, 3) := by decide +kernel
theorem dX4_isSameAs_87 : decode cX4_isSameAs 87 = .ok (.iload_n 2, 1) := by decide +kernel
theorem dX4_isSameAs_88 : decode cX4_isSameAs 88 = .ok (.iaload, 1) := by decide +kernel
theorem dX4_isSameAs_89 : decode cX4_isSameAs 89 = .ok (.aload_n 1, 1) := by decide +kernel
theorem dX4_isSameAs_90 : decode cX4_isSameAs 90 = .ok (.getfield 15, 3) := by decide +kernel
theorem dX4_isSameAs_93 : decode cX4_isSameAs 93 = .ok (.iload_n 2, 1) := by decide +kernel
theorem dX4_isSameAs_94 : decode cX4_isSameAs 94 = .ok (.iaload, 1) := by decide +kernel
theorem dX4_isSameAs_95 : decode cX4_isSameAs 95 = .ok (.if_icmp .eq 5, 3) := by decide +kernel
theorem dX4_isSameAs_98 : decode cX4_isSameAs 98 = .ok (.iconst 0, 1) := by decide +kernel
theorem dX4_isSameAs_99 : decode cX4_isSameAs 99 = .ok (.ireturn, 1) := by decide +kernel
theorem dX4_isSameAs_100 : decode cX4_isSameAs 100 = .ok (.iinc 2 1, 3) := by decide +kernel
theorem dX4_isSameAs_103 : decode cX4_isSameAs 103 = .ok (.goto (-54), 3) := by decide +kernel
theorem dX4_isSameAs_106 : decode cX4_isSameAs 106 = .ok (.iconst 1, 1) := by decide +kernel
theorem dX4_isSameAs_107 : decode cX4_isSameAs 107 = .ok (.ireturn, 1) := by decide +kernel
theorem dX1_putState_0 : decode cX1_putState 0 = .ok (.aload_n 0, 1) := by decide +kernel
theorem dX1_putState_1 : decode cX1_putState 1 = .ok (.getfield 27, 3) := by decide +kernel
theorem dX1_putState_4 : decode cX1_putState 4 = .ok (.istore_n 3, 1) := by decide +kernel
theorem dX1_putState_5 : decode cX1_putState 5 = .ok (.aload_n 0, 1) := by decide +kernel
theorem dX1_putState_6 : decode cX1_putState 6 = .ok (.getfield 11, 3) := by decide +kernel
theorem dX1_putState_9 : decode cX1_putState 9 = .ok (.iload_n 3, 1) := by decide +kernel
theorem dX1_putState_10 : decode cX1_putState 10 = .ok (.aaload, 1) := by decide +kernel
theorem dX1_putState_11 : decode cX1_putState 11 = .ok (.astore 4, 2) := by decide +kernel
theorem dX1_putState_13 : decode cX1_putState 13 = .ok (.aload 4, 2) := by decide +kernel
theorem dX1_putState_15 : decode cX1_putState 15 = .ok (.iload_n 2, 1) := by decide +kernel
theorem dX1_putState_16 : decode cX1_putState 16 = .ok (.putfield 40, 3) := by decide +kernel
theorem dX1_putState_19 : decode cX1_putState 19 = .ok (.aload 4, 2) := by decide +kernel
theorem dX1_putState_21 : decode cX1_putState 21 = .ok (.iload_n 1, 1) := by decide +kernel
theorem dX1_putState_22 : decode cX1_putState 22 = .ok (.putfield 43, 3) := by decide +kernel
theorem dX1_putState_25 : decode cX1_putState 25 = .ok (.aload_n 0, 1) := by decide +kernel
theorem dX1_putState_26 : decode cX1_putState 26 = .ok (.dup, 1) := by decide +kernel
theorem dX1_putState_27 : decode cX1_putState 27 = .ok (.getfield 27, 3) := by decide +kernel
theorem dX1_putState_30 : decode cX1_putState 30 = .ok (.iconst 1, 1) := by decide +kernel
theorem dX1_putState_31 : decode cX1_putState 31 = .ok (.iadd, 1) := by decide +kernel
theorem dX1_putState_32 : decode cX1_putState 32 = .ok (.putfield 27, 3) := by decide +kernel
theorem dX1_putState_35 : decode cX1_putState 35 = .ok (.iconst 0, 1) := by decide +kernel
theorem dX1_putState_36 : decode cX1_putState 36 = .ok (.istore 5, 2) := by decide +kernel
theorem dX1_putState_38 : decode cX1_putState 38 = .ok (.iload 5, 2) := by decide +kernel
theorem dX1_putState_40 : decode cX1_putState 40 = .ok (.iload_n 3, 1) := by decide +kernel
theorem dX1_putState_41 : decode cX1_putState 41 = .ok (.if_icmp .ge 51, 3) := by decide +kernel
theorem dX1_putState_44 : decode cX1_putState 44 = .ok (.iload 5, 2) := by decide +kernel
theorem dX1_putState_46 : decode cX1_putState 46 = .ok (.iload_n 1, 1) := by decide +kernel
theorem dX1_putState_47 : decode cX1_putState 47 = .ok (.if_icmp .eq 20, 3) := by decide +kernel
theorem dX1_putState_50 : decode cX1_putState 50 = .ok (.aload_n 0, 1) := by decide +kernel
theorem dX1_putState_51 : decode cX1_putState 51 = .ok (.getfield 11, 3) := by decide +kernel
theorem dX1_putState_54 : decode cX1_putState 54 = .ok (.iload 5, 2) := by decide +kernel
theorem dX1_putState_56 : decode cX1_putState 56 = .ok (.aaload, 1) := by decide +kernel
theorem dX1_putState_57 : decode cX1_putState 57 = .ok (.getfield 46, 3) := by decide +kernel
theorem dX1_putState_60 : decode cX1_putState 60 = .ok (.iload_n 1, 1) := by decide +kernel
theorem dX1_putState_61 : decode cX1_putState 61 = .ok (.invokestatic 49, 3) := by decide +kernel
theorem dX1_putState_64 : decode cX1_putState 64 = .ok (.ifCond .eq 22, 3) := by decide +kernel
theorem dX1_putState_67 : decode cX1_putState 67 = .ok (.aload_n 0, 1) := by decide +kernel
theorem dX1_putState_68 : decode cX1_putState 68 = .ok (.getfield 11, 3) := by decide +kernel
theorem dX1_putState_71 : decode cX1_putState 71 = .ok (.iload 5, 2) := by decide +kernel
theorem dX1_putState_73 : decode cX1_putState 73 = .ok (.aaload, 1) := by decide +kernel
theorem dX1_putState_74 : decode cX1_putState 74 = .ok (.dup, 1) := by decide +kernel
theorem dX1_putState_75 : decode cX1_putState 75 = .ok (.getfield 46, 3) := by decide +kernel
theorem dX1_putState_78 : decode cX1_putState 78 = .ok (.iload_n 3, 1) := by decide +kernel
theorem dX1_putState_79 : decode cX1_putState 79 = .ok (.invokestatic 31, 3) := by decide +kernel
theorem dX1_putState_82 : decode cX1_putState 82 = .ok (.ior, 1) := by decide +kernel
theorem dX1_putState_83 : decode cX1_putState 83 = .ok (.putfield 46, 3) := by decide +kernel
theorem dX1_putState_86 : decode cX1_putState 86 = .ok (.iinc 5 1, 3) := by decide +kernel
theorem dX1_putState_89 : decode cX1_putState 89 = .ok (.goto (-51), 3) := by decide +kernel
theorem dX1_putState_92 : decode cX1_putState 92 = .ok (.aload 4, 2) := by decide +kernel
theorem dX1_putState_94 : decode cX1_putState 94 = .ok (.invokevirtual 53, 3) := by decide +kernel
theorem dX1_putState_97 : decode cX1_putState 97 = .ok (.ifCond .ne 33, 3) := by decide +kernel
theorem dX1_putState_100 : decode cX1_putState 100 = .ok (.aload_n 0, 1) := by decide +kernel
theorem dX1_putState_101 : decode cX1_putState 101 = .ok (.getfield 11, 3) := by decide +kernel
theorem dX1_putState_104 : decode cX1_putState 104 = .ok (.iload_n 1, 1) := by decide +kernel
theorem dX1_putState_105 : decode cX1_putState 105 = .ok (.aaload, 1) := by decide +kernel
theorem dX1_putState_106 : decode cX1_putState 106 = .ok (.iload_n 3, 1) := by decide +kernel
theorem dX1_putState_107 : decode cX1_putState 107 = .ok (.invokevirtual 57, 3) := by decide +kernel
theorem dX1_putState_110 : decode cX1_putState 110 = .ok (.aload_n 0, 1) := by decide +kernel
theorem dX1_putState_111 : decode cX1_putState 111 = .ok (.aload_n 0, 1) := by decide +kernel
theorem dX1_putState_112 : decode cX1_putState 112 = .ok (.getfield 35, 3) := by decide +kernel
theorem dX1_putState_115 : decode cX1_putState 115 = .ok (.iload_n 1, 1) := by decide +kernel
theorem dX1_putState_116 : decode cX1_putState 116 = .ok (.invokestatic 31, 3) := by decide +kernel
theorem dX1_putState_119 : decode cX1_putState 119 = .ok (.iconst (-1), 1) := by decide +kernel
theorem dX1_putState_120 : decode cX1_putState 120 = .ok (.ixor, 1) := by decide +kernel
theorem dX1_putState_121 : decode cX1_putState 121 = .ok (.iand, 1) := by decide +kernel
theorem dX1_putState_122 : decode cX1_putState 122 = .ok (.iload_n 3, 1) := by decide +kernel
theorem dX1_putState_123 : decode cX1_putState 123 = .ok (.invokestatic 31, 3) := by decide +kernel
theorem dX1_putState_126 : decode cX1_putState 126 = .ok (.ior, 1) := by decide +kernel
theorem dX1_putState_127 : decode cX1_putState 127 = .ok (.putfield 35, 3) := by decide +kernel
theorem dX1_putState_130 : decode cX1_putState 130 = .ok (.iload_n 2, 1) := by decide +kernel
theorem dX1_putState_131 : decode cX1_putState 131 = .ok (.iconst 2, 1) := by decide +kernel
theorem dX1_putState_132 : decode cX1_putState 132 = .ok (.if_icmp .ne 16, 3) := by decide +kernel
theorem dX1_putState_135 : decode cX1_putState 135 = .ok (.aload_n 0, 1) := by decide +kernel
theorem dX1_putState_136 : decode cX1_putState 136 = .ok (.dup, 1) := by decide +kernel
theorem dX1_putState_137 : decode cX1_putState 137 = .ok (.getfield 61, 3) := by decide +kernel
theorem dX1_putState_140 : decode cX1_putState 140 = .ok (.iload_n 3, 1) := by decide +kernel
theorem dX1_putState_141 : decode cX1_putState 141 = .ok (.invokestatic 31, 3) := by decide +kernel
theorem dX1_putState_144 : decode cX1_putState 144 = .ok (.ior, 1) := by decide +kernel
theorem dX1_putState_145 : decode cX1_putState 145 = .ok (.putfield 61, 3) := by decide +kernel
theorem dX1_putState_148 : decode cX1_putState 148 = .ok (.iload_n 3, 1) := by decide +kernel
theorem dX1_putState_149 : decode cX1_putState 149 = .ok (.ireturn, 1) := by decide +kernel
theorem dX1_causeOf_0 : decode cX1_causeOf 0 = .ok (.iload_n 0, 1) := by decide +kernel
theorem dX1_causeOf_1 : decode cX1_causeOf 1 = .ok (.ifCond .ne 5, 3) := by decide +kernel
theorem dX1_causeOf_4 : decode cX1_causeOf 4 = .ok (.iload_n 1, 1) := by decide +kernel
theorem dX1_causeOf_5 : decode cX1_causeOf 5 = .ok (.ireturn, 1) := by decide +kernel
theorem dX1_causeOf_6 : decode cX1_causeOf 6 = .ok (.iload_n 0, 1) := by decide +kernel
theorem dX1_causeOf_7 : decode cX1_causeOf 7 = .ok (.iconst 1, 1) := by decide +kernel
theorem dX1_causeOf_8 : decode cX1_causeOf 8 = .ok (.if_icmp .ne 8, 3) := by decide +kernel
theorem dX1_causeOf_11 : decode cX1_causeOf 11 = .ok (.bipush 10, 2) := by decide +kernel
theorem dX1_causeOf_13 : decode cX1_causeOf 13 = .ok (.goto 5, 3) := by decide +kernel
theorem dX1_causeOf_16 : decode cX1_causeOf 16 = .ok (.bipush 11, 2) := by decide +kernel
theorem dX1_causeOf_18 : decode cX1_causeOf 18 = .ok (.ireturn, 1) := by decide +kernel
theorem dX1_scopeOf_0 : decode cX1_scopeOf 0 = .ok (.iload_n 1, 1) := by decide +kernel
theorem dX1_scopeOf_1 : decode cX1_scopeOf 1 = .ok (.invokestatic 31, 3) := by decide +kernel
theorem dX1_scopeOf_4 : decode cX1_scopeOf 4 = .ok (.iload_n 2, 1) := by decide +kernel
theorem dX1_scopeOf_5 : decode cX1_scopeOf 5 = .ok (.invokestatic 31, 3) := by decide +kernel
theorem dX1_scopeOf_8 : decode cX1_scopeOf 8 = .ok (.ior, 1) := by decide +kernel
theorem dX1_scopeOf_9 : decode cX1_scopeOf 9 = .ok (.istore_n 3, 1) := by decide +kernel
theorem dX1_scopeOf_10 : decode cX1_scopeOf 10 = .ok (.iload_n 1, 1) := by decide +kernel
theorem dX1_scopeOf_11 : decode cX1_scopeOf 11 = .ok (.iconst 1, 1) := by decide +kernel
theorem dX1_scopeOf_12 : decode cX1_scopeOf 12 = .ok (.isub, 1) := by decide +kernel
theorem dX1_scopeOf_13 : decode cX1_scopeOf 13 = .ok (.istore 4, 2) := by decide +kernel
theorem dX1_scopeOf_15 : decode cX1_scopeOf 15 = .ok (.iload 4, 2) := by decide +kernel
theorem dX1_scopeOf_17 : decode cX1_scopeOf 17 = .ok (.ifCond .le 41, 3) := by decide +kernel
theorem dX1_scopeOf_20 : decode cX1_scopeOf 20 = .ok (.aload_n 0, 1) := by decide +kernel
theorem dX1_scopeOf_21 : decode cX1_scopeOf 21 = .ok (.getfield 11, 3) := by decide +kernel
theorem dX1_scopeOf_24 : decode cX1_scopeOf 24 = .ok (.iload 4, 2) := by decide +kernel
theorem dX1_scopeOf_26 : decode cX1_scopeOf 26 = .ok (.aaload, 1) := by decide +kernel
theorem dX1_scopeOf_27 : decode cX1_scopeOf 27 = .ok (.getfield 40, 3) := by decide +kernel
theorem dX1_scopeOf_30 : decode cX1_scopeOf 30 = .ok (.ifCond .ne 22, 3) := by decide +kernel
theorem dX1_scopeOf_33 : decode cX1_scopeOf 33 = .ok (.aload_n 0, 1) := by decide +kernel
theorem dX1_scopeOf_34 : decode cX1_scopeOf 34 = .ok (.getfield 11, 3) := by decide +kernel
theorem dX1_scopeOf_37 : decode cX1_scopeOf 37 = .ok (.iload 4, 2) := by decide +kernel
theorem dX1_scopeOf_39 : decode cX1_scopeOf 39 = .ok (.aaload, 1) := by decide +kernel
theorem dX1_scopeOf_40 : decode cX1_scopeOf 40 = .ok (.getfield 46, 3) := by decide +kernel
theorem dX1_scopeOf_43 : decode cX1_scopeOf 43 = .ok (.iload_n 3, 1) := by decide +kernel
theorem dX1_scopeOf_44 : decode cX1_scopeOf 44 = .ok (.iand, 1) := by decide +kernel
theorem dX1_scopeOf_45 : decode cX1_scopeOf 45 = .ok (.iload_n 3, 1) := by decide +kernel
theorem dX1_scopeOf_46 : decode cX1_scopeOf 46 = .ok (.if_icmp .ne 6, 3) := by decide +kernel
theorem dX1_scopeOf_49 : decode cX1_scopeOf 49 = .ok (.iload 4, 2) := by decide +kernel
theorem dX1_scopeOf_51 : decode cX1_scopeOf 51 = .ok (.ireturn, 1) := by decide +kernel
theorem dX1_scopeOf_52 : decode cX1_scopeOf 52 = .ok (.iinc 4 (-1), 3) := by decide +kernel
theorem dX1_scopeOf_55 : decode cX1_scopeOf 55 = .ok (.goto (-40), 3) := by decide +kernel
theorem dX1_scopeOf_58 : decode cX1_scopeOf 58 = .ok (.iconst 0, 1) := by decide +kernel
theorem dX1_scopeOf_59 : decode cX1_scopeOf 59 = .ok (.ireturn, 1) := by decide +kernel
theorem dX1_putTransition_0 : decode cX1_putTransition 0 = .ok (.aload_n 0, 1) := by decide +kernel
theorem dX1_putTransition_1 : decode cX1_putTransition 1 = .ok (.getfield 64, 3) := by decide +kernel
theorem dX1_putTransition_4 : decode cX1_putTransition 4 = .ok (.istore 5, 2) := by decide +kernel
theorem dX1_putTransition_6 : decode cX1_putTransition 6 = .ok (.aload_n 0, 1) := by decide +kernel
theorem dX1_putTransition_7 : decode cX1_putTransition 7 = .ok (.getfield 19, 3) := by decide +kernel
theorem dX1_putTransition_10 : decode cX1_putTransition 10 = .ok (.iload 5, 2) := by decide +kernel
theorem dX1_putTransition_12 : decode cX1_putTransition 12 = .ok (.aaload, 1) := by decide +kernel
theorem dX1_putTransition_13 : decode cX1_putTransition 13 = .ok (.astore 6, 2) := by decide +kernel
theorem dX1_putTransition_15 : decode cX1_putTransition 15 = .ok (.aload 6, 2) := by decide +kernel
theorem dX1_putTransition_17 : decode cX1_putTransition 17 = .ok (.iload_n 1, 1) := by decide +kernel
theorem dX1_putTransition_18 : decode cX1_putTransition 18 = .ok (.putfield 67, 3) := by decide +kernel
theorem dX1_putTransition_21 : decode cX1_putTransition 21 = .ok (.aload 6, 2) := by decide +kernel
theorem dX1_putTransition_23 : decode cX1_putTransition 23 = .ok (.iload_n 2, 1) := by decide +kernel
theorem dX1_putTransition_24 : decode cX1_putTransition 24 = .ok (.putfield 70, 3) := by decide +kernel
theorem dX1_putTransition_27 : decode cX1_putTransition 27 = .ok (.aload 6, 2) := by decide +kernel
theorem dX1_putTransition_29 : decode cX1_putTransition 29 = .ok (.iload_n 3, 1) := by decide +kernel
theorem dX1_putTransition_30 : decode cX1_putTransition 30 = .ok (.putfield 73, 3) := by decide +kernel
theorem dX1_putTransition_33 : decode cX1_putTransition 33 = .ok (.aload 6, 2) := by decide +kernel
theorem dX1_putTransition_35 : decode cX1_putTransition 35 = .ok (.iload 4, 2) := by decide +kernel
theorem dX1_putTransition_37 : decode cX1_putTransition 37 = .ok (.putfield 76, 3) := by decide +kernel
theorem dX1_putTransition_40 : decode cX1_putTransition 40 = .ok (.aload 6, 2) := by decide +kernel
theorem dX1_putTransition_42 : decode cX1_putTransition 42 = .ok (.iload 4, 2) := by decide +kernel
theorem dX1_putTransition_44 : decode cX1_putTransition 44 = .ok (.iconst (-1), 1) := by decide +kernel
theorem dX1_putTransition_45 : decode cX1_putTransition 45 = .ok (.if_icmp .ne 7, 3) := by decide +kernel
theorem dX1_putTransition_48 : decode cX1_putTransition 48 = .ok (.iconst (-1), 1) := by decide +kernel
theorem dX1_putTransition_49 : decode cX1_putTransition 49 = .ok (.goto 10, 3) := by decide +kernel
theorem dX1_putTransition_52 : decode cX1_putTransition 52 = .ok (.aload_n 0, 1) := by decide +kernel
theorem dX1_putTransition_53 : decode cX1_putTransition 53 = .ok (.iload_n 1, 1) := by decide +kernel
theorem dX1_putTransition_54 : decode cX1_putTransition 54 = .ok (.iload 4, 2) := by decide +kernel
theorem dX1_putTransition_56 : decode cX1_putTransition 56 = .ok (.invokevirtual 79, 3) := by decide +kernel
theorem dX1_putTransition_59 : decode cX1_putTransition 59 = .ok (.putfield 83, 3) := by decide +kernel
theorem dX1_putTransition_62 : decode cX1_putTransition 62 = .ok (.aload_n 0, 1) := by decide +kernel
theorem dX1_putTransition_63 : decode cX1_putTransition 63 = .ok (.getfield 11, 3) := by decide +kernel
theorem dX1_putTransition_66 : decode cX1_putTransition 66 = .ok (.iload_n 1, 1) := by decide +kernel
theorem dX1_putTransition_67 : decode cX1_putTransition 67 = .ok (.aaload, 1) := by decide +kernel
theorem dX1_putTransition_68 : decode cX1_putTransition 68 = .ok (.dup, 1) := by decide +kernel
theorem dX1_putTransition_69 : decode cX1_putTransition 69 = .ok (.getfield 86, 3) := by decide +kernel
theorem dX1_putTransition_72 : decode cX1_putTransition 72 = .ok (.iload 5, 2) := by decide +kernel
theorem dX1_putTransition_74 : decode cX1_putTransition 74 = .ok (.invokestatic 31, 3) := by decide +kernel
theorem dX1_putTransition_77 : decode cX1_putTransition 77 = .ok (.ior, 1) := by decide +kernel
theorem dX1_putTransition_78 : decode cX1_putTransition 78 = .ok (.putfield 86, 3) := by decide +kernel
theorem dX1_putTransition_81 : decode cX1_putTransition 81 = .ok (.aload_n 0, 1) := by decide +kernel
theorem dX1_putTransition_82 : decode cX1_putTransition 82 = .ok (.getfield 23, 3) := by decide +kernel
theorem dX1_putTransition_85 : decode cX1_putTransition 85 = .ok (.iload_n 2, 1) := by decide +kernel
theorem dX1_putTransition_86 : decode cX1_putTransition 86 = .ok (.iload_n 3, 1) := by decide +kernel
theorem dX1_putTransition_87 : decode cX1_putTransition 87 = .ok (.invokestatic 89, 3) := by decide +kernel
theorem dX1_putTransition_90 : decode cX1_putTransition 90 = .ok (.dup2, 1) := by decide +kernel
theorem dX1_putTransition_91 : decode cX1_putTransition 91 = .ok (.iaload, 1) := by decide +kernel
theorem dX1_putTransition_92 : decode cX1_putTransition 92 = .ok (.iload 5, 2) := by decide +kernel
theorem dX1_putTransition_94 : decode cX1_putTransition 94 = .ok (.invokestatic 31, 3) := by decide +kernel
theorem dX1_putTransition_97 : decode cX1_putTransition 97 = .ok (.ior, 1) := by decide +kernel
theorem dX1_putTransition_98 : decode cX1_putTransition 98 = .ok (.iastore, 1) := by decide +kernel
theorem dX1_putTransition_99 : decode cX1_putTransition 99 = .ok (.aload_n 0, 1) := by decide +kernel
theorem dX1_putTransition_100 : decode cX1_putTransition 100 = .ok (.dup, 1) := by decide +kernel
theorem dX1_putTransition_101 : decode cX1_putTransition 101 = .ok (.getfield 64, 3) := by decide +kernel
theorem dX1_putTransition_104 : decode cX1_putTransition 104 = .ok (.iconst 1, 1) := by decide +kernel
theorem dX1_putTransition_105 : decode cX1_putTransition 105 = .ok (.iadd, 1) := by decide +kernel
theorem dX1_putTransition_106 : decode cX1_putTransition 106 = .ok (.putfield 64, 3) := by decide +kernel
theorem dX1_putTransition_109 : decode cX1_putTransition 109 = .ok (.iload 5, 2) := by decide +kernel
theorem dX1_putTransition_111 : decode cX1_putTransition 111 = .ok (.ireturn, 1) := by decide +kernel
theorem dX1_filled_0 : decode cX1_filled 0 = .ok (.iload_n 1, 1) := by decide +kernel
theorem dX1_filled_1 : decode cX1_filled 1 = .ok (.istore_n 2, 1) := by decide +kernel
theorem dX1_filled_2 : decode cX1_filled 2 = .ok (.iconst 0, 1) := by decide +kernel
theorem dX1_filled_3 : decode cX1_filled 3 = .ok (.istore_n 3, 1) := by decide +kernel
theorem dX1_filled_4 : decode cX1_filled 4 = .ok (.iload_n 3, 1) := by decide +kernel
theorem dX1_filled_5 : decode cX1_filled 5 = .ok (.aload_n 0, 1) := by decide +kernel
theorem dX1_filled_6 : decode cX1_filled 6 = .ok (.getfield 27, 3) := by decide +kernel
theorem dX1_filled_9 : decode cX1_filled 9 = .ok (.if_icmp .ge 29, 3) := by decide +kernel
theorem dX1_filled_12 : decode cX1_filled 12 = .ok (.iload_n 2, 1) := by decide +kernel
theorem dX1_filled_13 : decode cX1_filled 13 = .ok (.iload_n 3, 1) := by decide +kernel
theorem dX1_filled_14 : decode cX1_filled 14 = .ok (.invokestatic 49, 3) := by decide +kernel
theorem dX1_filled_17 : decode cX1_filled 17 = .ok (.ifCond .eq 15, 3) := by decide +kernel
theorem dX1_filled_20 : decode cX1_filled 20 = .ok (.iload_n 2, 1) := by decide +kernel
theorem dX1_filled_21 : decode cX1_filled 21 = .ok (.aload_n 0, 1) := by decide +kernel
theorem dX1_filled_22 : decode cX1_filled 22 = .ok (.getfield 11, 3) := by decide +kernel
theorem dX1_filled_25 : decode cX1_filled 25 = .ok (.iload_n 3, 1) := by decide +kernel
theorem dX1_filled_26 : decode cX1_filled 26 = .ok (.aaload, 1) := by decide +kernel
theorem dX1_filled_27 : decode cX1_filled 27 = .ok (.getfield 92, 3) := by decide +kernel
theorem dX1_filled_30 : decode cX1_filled 30 = .ok (.ior, 1) := by decide +kernel
theorem dX1_filled_31 : decode cX1_filled 31 = .ok (.istore_n 2, 1) := by decide +kernel
theorem dX1_filled_32 : decode cX1_filled 32 = .ok (.iinc 3 1, 3) := by decide +kernel
theorem dX1_filled_35 : decode cX1_filled 35 = .ok (.goto (-31), 3) := by decide +kernel
theorem dX1_filled_38 : decode cX1_filled 38 = .ok (.iload_n 2, 1) := by decide +kernel
theorem dX1_filled_39 : decode cX1_filled 39 = .ok (.ireturn, 1) := by decide +kernel
theorem dX1_partsAside_0 : decode cX1_partsAside 0 = .ok (.aload_n 0, 1) := by decide +kernel
theorem dX1_partsAside_1 : decode cX1_partsAside 1 = .ok (.getfield 11, 3) := by decide +kernel
theorem dX1_partsAside_4 : decode cX1_partsAside 4 = .ok (.iload_n 1, 1) := by decide +kernel
theorem dX1_partsAside_5 : decode cX1_partsAside 5 = .ok (.aaload, 1) := by decide +kernel
theorem dX1_partsAside_6 : decode cX1_partsAside 6 = .ok (.getfield 101, 3) := by decide +kernel
theorem dX1_partsAside_9 : decode cX1_partsAside 9 = .ok (.iload_n 2, 1) := by decide +kernel
theorem dX1_partsAside_10 : decode cX1_partsAside 10 = .ok (.iconst (-1), 1) := by decide +kernel
theorem dX1_partsAside_11 : decode cX1_partsAside 11 = .ok (.ixor, 1) := by decide +kernel
theorem dX1_partsAside_12 : decode cX1_partsAside 12 = .ok (.iand, 1) := by decide +kernel
theorem dX1_partsAside_13 : decode cX1_partsAside 13 = .ok (.istore_n 3, 1) := by decide +kernel
theorem dX1_partsAside_14 : decode cX1_partsAside 14 = .ok (.iload_n 1, 1) := by decide +kernel
theorem dX1_partsAside_15 : decode cX1_partsAside 15 = .ok (.iconst 1, 1) := by decide +kernel
theorem dX1_partsAside_16 : decode cX1_partsAside 16 = .ok (.iadd, 1) := by decide +kernel
theorem dX1_partsAside_17 : decode cX1_partsAside 17 = .ok (.istore 4, 2) := by decide +kernel
theorem dX1_partsAside_19 : decode cX1_partsAside 19 = .ok (.iload 4, 2) := by decide +kernel
theorem dX1_partsAside_21 : decode cX1_partsAside 21 = .ok (.aload_n 0, 1) := by decide +kernel
theorem dX1_partsAside_22 : decode cX1_partsAside 22 = .ok (.getfield 27, 3) := by decide +kernel
theorem dX1_partsAside_25 : decode cX1_partsAside 25 = .ok (.if_icmp .ge 34, 3) := by decide +kernel
theorem dX1_partsAside_28 : decode cX1_partsAside 28 = .ok (.aload_n 0, 1) := by decide +kernel
theorem dX1_partsAside_29 : decode cX1_partsAside 29 = .ok (.getfield 11, 3) := by decide +kernel
theorem dX1_partsAside_32 : decode cX1_partsAside 32 = .ok (.iload 4, 2) := by decide +kernel
theorem dX1_partsAside_34 : decode cX1_partsAside 34 = .ok (.aaload, 1) := by decide +kernel
theorem dX1_partsAside_35 : decode cX1_partsAside 35 = .ok (.getfield 46, 3) := by decide +kernel
theorem dX1_partsAside_38 : decode cX1_partsAside 38 = .ok (.iload_n 2, 1) := by decide +kernel
theorem dX1_partsAside_39 : decode cX1_partsAside 39 = .ok (.iand, 1) := by decide +kernel
theorem dX1_partsAside_40 : decode cX1_partsAside 40 = .ok (.ifCond .eq 13, 3) := by decide +kernel
theorem dX1_partsAside_43 : decode cX1_partsAside 43 = .ok (.iload_n 3, 1) := by decide +kernel
theorem dX1_partsAside_44 : decode cX1_partsAside 44 = .ok (.iload 4, 2) := by decide +kernel
theorem dX1_partsAside_46 : decode cX1_partsAside 46 = .ok (.invokestatic 31, 3) := by decide +kernel
theorem dX1_partsAside_49 : decode cX1_partsAside 49 = .ok (.iconst (-1), 1) := by decide +kernel
theorem dX1_partsAside_50 : decode cX1_partsAside 50 = .ok (.ixor, 1) := by decide +kernel
theorem dX1_partsAside_51 : decode cX1_partsAside 51 = .ok (.iand, 1) := by decide +kernel
theorem dX1_partsAside_52 : decode cX1_partsAside 52 = .ok (.istore_n 3, 1) := by decide +kernel
theorem dX1_partsAside_53 : decode cX1_partsAside 53 = .ok (.iinc 4 1, 3) := by decide +kernel
theorem dX1_partsAside_56 : decode cX1_partsAside 56 = .ok (.goto (-37), 3) := by decide +kernel
theorem dX1_partsAside_59 : decode cX1_partsAside 59 = .ok (.iload_n 3, 1) := by decide +kernel
theorem dX1_partsAside_60 : decode cX1_partsAside 60 = .ok (.ireturn, 1) := by decide +kernel
theorem dX1_enteredInto_0 : decode cX1_enteredInto 0 = .ok (.iconst 0, 1) := by decide +kernel
theorem dX1_enteredInto_1 : decode cX1_enteredInto 1 = .ok (.istore_n 3, 1) := by decide +kernel
theorem dX1_enteredInto_2 : decode cX1_enteredInto 2 = .ok (.iload_n 1, 1) := by decide +kernel
theorem dX1_enteredInto_3 : decode cX1_enteredInto 3 = .ok (.istore 4, 2) := by decide +kernel
theorem dX1_enteredInto_5 : decode cX1_enteredInto 5 = .ok (.iload_n 2, 1) := by decide +kernel
theorem dX1_enteredInto_6 : decode cX1_enteredInto 6 = .ok (.iconst 1, 1) := by decide +kernel
theorem dX1_enteredInto_7 : decode cX1_enteredInto 7 = .ok (.iadd, 1) := by decide +kernel
theorem dX1_enteredInto_8 : decode cX1_enteredInto 8 = .ok (.istore 5, 2) := by decide +kernel
theorem dX1_enteredInto_10 : decode cX1_enteredInto 10 = .ok (.iload 5, 2) := by decide +kernel
theorem dX1_enteredInto_12 : decode cX1_enteredInto 12 = .ok (.aload_n 0, 1) := by decide +kernel
theorem dX1_enteredInto_13 : decode cX1_enteredInto 13 = .ok (.getfield 27, 3) := by decide +kernel
theorem dX1_enteredInto_16 : decode cX1_enteredInto 16 = .ok (.if_icmp .ge 75, 3) := by decide +kernel
theorem dX1_enteredInto_19 : decode cX1_enteredInto 19 = .ok (.aload_n 0, 1) := by decide +kernel
theorem dX1_enteredInto_20 : decode cX1_enteredInto 20 = .ok (.getfield 11, 3) := by decide +kernel
theorem dX1_enteredInto_23 : decode cX1_enteredInto 23 = .ok (.iload_n 2, 1) := by decide +kernel
theorem dX1_enteredInto_24 : decode cX1_enteredInto 24 = .ok (.aaload, 1) := by decide +kernel
theorem dX1_enteredInto_25 : decode cX1_enteredInto 25 = .ok (.getfield 46, 3) := by decide +kernel
theorem dX1_enteredInto_28 : decode cX1_enteredInto 28 = .ok (.iload 5, 2) := by decide +kernel
theorem dX1_enteredInto_30 : decode cX1_enteredInto 30 = .ok (.invokestatic 49, 3) := by decide +kernel
theorem dX1_enteredInto_33 : decode cX1_enteredInto 33 = .ok (.ifCond .eq 52, 3) := by decide +kernel
theorem dX1_enteredInto_36 : decode cX1_enteredInto 36 = .ok (.aload_n 0, 1) := by decide +kernel
theorem dX1_enteredInto_37 : decode cX1_enteredInto 37 = .ok (.getfield 11, 3) := by decide +kernel
theorem dX1_enteredInto_40 : decode cX1_enteredInto 40 = .ok (.iload 5, 2) := by decide +kernel
theorem dX1_enteredInto_42 : decode cX1_enteredInto 42 = .ok (.aaload, 1) := by decide +kernel
theorem dX1_enteredInto_43 : decode cX1_enteredInto 43 = .ok (.getfield 46, 3) := by decide +kernel
theorem dX1_enteredInto_46 : decode cX1_enteredInto 46 = .ok (.iload_n 1, 1) := by decide +kernel
theorem dX1_enteredInto_47 : decode cX1_enteredInto 47 = .ok (.iand, 1) := by decide +kernel
theorem dX1_enteredInto_48 : decode cX1_enteredInto 48 = .ok (.ifCond .eq 37, 3) := by decide +kernel
theorem dX1_enteredInto_51 : decode cX1_enteredInto 51 = .ok (.iload_n 3, 1) := by decide +kernel
theorem dX1_enteredInto_52 : decode cX1_enteredInto 52 = .ok (.iload 5, 2) := by decide +kernel
theorem dX1_enteredInto_54 : decode cX1_enteredInto 54 = .ok (.invokestatic 31, 3) := by decide +kernel
theorem dX1_enteredInto_57 : decode cX1_enteredInto 57 = .ok (.ior, 1) := by decide +kernel
theorem dX1_enteredInto_58 : decode cX1_enteredInto 58 = .ok (.istore_n 3, 1) := by decide +kernel
theorem dX1_enteredInto_59 : decode cX1_enteredInto 59 = .ok (.aload_n 0, 1) := by decide +kernel
theorem dX1_enteredInto_60 : decode cX1_enteredInto 60 = .ok (.getfield 11, 3) := by decide +kernel
theorem dX1_enteredInto_63 : decode cX1_enteredInto 63 = .ok (.iload 5, 2) := by decide +kernel
theorem dX1_enteredInto_65 : decode cX1_enteredInto 65 = .ok (.aaload, 1) := by decide +kernel
theorem dX1_enteredInto_66 : decode cX1_enteredInto 66 = .ok (.getfield 40, 3) := by decide +kernel
theorem dX1_enteredInto_69 : decode cX1_enteredInto 69 = .ok (.iconst 1, 1) := by decide +kernel
theorem dX1_enteredInto_70 : decode cX1_enteredInto 70 = .ok (.if_icmp .ne 15, 3) := by decide +kernel
theorem dX1_enteredInto_73 : decode cX1_enteredInto 73 = .ok (.iload 4, 2) := by decide +kernel
theorem dX1_enteredInto_75 : decode cX1_enteredInto 75 = .ok (.aload_n 0, 1) := by decide +kernel
theorem dX1_enteredInto_76 : decode cX1_enteredInto 76 = .ok (.iload 5, 2) := by decide +kernel
theorem dX1_enteredInto_78 : decode cX1_enteredInto 78 = .ok (.iload_n 1, 1) := by decide +kernel
theorem dX1_enteredInto_79 : decode cX1_enteredInto 79 = .ok (.invokevirtual 95, 3) := by decide +kernel
theorem dX1_enteredInto_82 : decode cX1_enteredInto 82 = .ok (.ior, 1) := by decide +kernel
theorem dX1_enteredInto_83 : decode cX1_enteredInto 83 = .ok (.istore 4, 2) := by decide +kernel
theorem dX1_enteredInto_85 : decode cX1_enteredInto 85 = .ok (.iinc 5 1, 3) := by decide +kernel
theorem dX1_enteredInto_88 : decode cX1_enteredInto 88 = .ok (.goto (-78), 3) := by decide +kernel
theorem dX1_enteredInto_91 : decode cX1_enteredInto 91 = .ok (.iload_n 3, 1) := by decide +kernel
theorem dX1_enteredInto_92 : decode cX1_enteredInto 92 = .ok (.aload_n 0, 1) := by decide +kernel
theorem dX1_enteredInto_93 : decode cX1_enteredInto 93 = .ok (.iload 4, 2) := by decide +kernel
theorem dX1_enteredInto_95 : decode cX1_enteredInto 95 = .ok (.invokevirtual 98, 3) := by decide +kernel
theorem dX1_enteredInto_98 : decode cX1_enteredInto 98 = .ok (.ior, 1) := by decide +kernel
theorem dX1_enteredInto_99 : decode cX1_enteredInto 99 = .ok (.ireturn, 1) := by decide +kernel
theorem dX1_endedAmong_0 : decode cX1_endedAmong 0 = .ok (.iconst 0, 1) := by decide +kernel
theorem dX1_endedAmong_1 : decode cX1_endedAmong 1 = .ok (.istore_n 2, 1) := by decide +kernel
theorem dX1_endedAmong_2 : decode cX1_endedAmong 2 = .ok (.aload_n 0, 1) := by decide +kernel
theorem dX1_endedAmong_3 : decode cX1_endedAmong 3 = .ok (.getfield 27, 3) := by decide +kernel
theorem dX1_endedAmong_6 : decode cX1_endedAmong 6 = .ok (.iconst 1, 1) := by decide +kernel
theorem dX1_endedAmong_7 : decode cX1_endedAmong 7 = .ok (.isub, 1) := by decide +kernel
theorem dX1_endedAmong_8 : decode cX1_endedAmong 8 = .ok (.istore_n 3, 1) := by decide +kernel
theorem dX1_endedAmong_9 : decode cX1_endedAmong 9 = .ok (.iload_n 3, 1) := by decide +kernel
theorem dX1_endedAmong_10 : decode cX1_endedAmong 10 = .ok (.ifCond .lt 102, 3) := by decide +kernel
theorem dX1_endedAmong_13 : decode cX1_endedAmong 13 = .ok (.aload_n 0, 1) := by decide +kernel
theorem dX1_endedAmong_14 : decode cX1_endedAmong 14 = .ok (.getfield 11, 3) := by decide +kernel
theorem dX1_endedAmong_17 : decode cX1_endedAmong 17 = .ok (.iload_n 3, 1) := by decide +kernel
theorem dX1_endedAmong_18 : decode cX1_endedAmong 18 = .ok (.aaload, 1) := by decide +kernel
theorem dX1_endedAmong_19 : decode cX1_endedAmong 19 = .ok (.getfield 101, 3) := by decide +kernel
theorem dX1_endedAmong_22 : decode cX1_endedAmong 22 = .ok (.istore 4, 2) := by decide +kernel
theorem dX1_endedAmong_24 : decode cX1_endedAmong 24 = .ok (.aload_n 0, 1) := by decide +kernel
theorem dX1_endedAmong_25 : decode cX1_endedAmong 25 = .ok (.getfield 11, 3) := by decide +kernel
theorem dX1_endedAmong_28 : decode cX1_endedAmong 28 = .ok (.iload_n 3, 1) := by decide +kernel
theorem dX1_endedAmong_29 : decode cX1_endedAmong 29 = .ok (.aaload, 1) := by decide +kernel
theorem dX1_endedAmong_30 : decode cX1_endedAmong 30 = .ok (.getfield 40, 3) := by decide +kernel
theorem dX1_endedAmong_33 : decode cX1_endedAmong 33 = .ok (.ifCond .ne 19, 3) := by decide +kernel
theorem dX1_endedAmong_36 : decode cX1_endedAmong 36 = .ok (.iload 4, 2) := by decide +kernel
theorem dX1_endedAmong_38 : decode cX1_endedAmong 38 = .ok (.aload_n 0, 1) := by decide +kernel
theorem dX1_endedAmong_39 : decode cX1_endedAmong 39 = .ok (.getfield 61, 3) := by decide +kernel
theorem dX1_endedAmong_42 : decode cX1_endedAmong 42 = .ok (.iand, 1) := by decide +kernel
theorem dX1_endedAmong_43 : decode cX1_endedAmong 43 = .ok (.iload_n 1, 1) := by decide +kernel
theorem dX1_endedAmong_44 : decode cX1_endedAmong 44 = .ok (.iand, 1) := by decide +kernel
theorem dX1_endedAmong_45 : decode cX1_endedAmong 45 = .ok (.ifCond .eq 7, 3) := by decide +kernel
theorem dX1_endedAmong_48 : decode cX1_endedAmong 48 = .ok (.iconst 1, 1) := by decide +kernel
theorem dX1_endedAmong_49 : decode cX1_endedAmong 49 = .ok (.goto 4, 3) := by decide +kernel
theorem dX1_endedAmong_52 : decode cX1_endedAmong 52 = .ok (.iconst 0, 1) := by decide +kernel
theorem dX1_endedAmong_53 : decode cX1_endedAmong 53 = .ok (.istore 5, 2) := by decide +kernel
theorem dX1_endedAmong_55 : decode cX1_endedAmong 55 = .ok (.aload_n 0, 1) := by decide +kernel
theorem dX1_endedAmong_56 : decode cX1_endedAmong 56 = .ok (.getfield 11, 3) := by decide +kernel
theorem dX1_endedAmong_59 : decode cX1_endedAmong 59 = .ok (.iload_n 3, 1) := by decide +kernel
theorem dX1_endedAmong_60 : decode cX1_endedAmong 60 = .ok (.aaload, 1) := by decide +kernel
theorem dX1_endedAmong_61 : decode cX1_endedAmong 61 = .ok (.getfield 40, 3) := by decide +kernel
theorem dX1_endedAmong_64 : decode cX1_endedAmong 64 = .ok (.iconst 1, 1) := by decide +kernel
theorem dX1_endedAmong_65 : decode cX1_endedAmong 65 = .ok (.if_icmp .ne 21, 3) := by decide +kernel
theorem dX1_endedAmong_68 : decode cX1_endedAmong 68 = .ok (.iload 4, 2) := by decide +kernel
theorem dX1_endedAmong_70 : decode cX1_endedAmong 70 = .ok (.ifCond .eq 16, 3) := by decide +kernel
theorem dX1_endedAmong_73 : decode cX1_endedAmong 73 = .ok (.iload 4, 2) := by decide +kernel
theorem dX1_endedAmong_75 : decode cX1_endedAmong 75 = .ok (.iload_n 2, 1) := by decide +kernel
theorem dX1_endedAmong_76 : decode cX1_endedAmong 76 = .ok (.iconst (-1), 1) := by decide +kernel
theorem dX1_endedAmong_77 : decode cX1_endedAmong 77 = .ok (.ixor, 1) := by decide +kernel
theorem dX1_endedAmong_78 : decode cX1_endedAmong 78 = .ok (.iand, 1) := by decide +kernel
theorem dX1_endedAmong_79 : decode cX1_endedAmong 79 = .ok (.ifCond .ne 7, 3) := by decide +kernel
theorem dX1_endedAmong_82 : decode cX1_endedAmong 82 = .ok (.iconst 1, 1) := by decide +kernel
theorem dX1_endedAmong_83 : decode cX1_endedAmong 83 = .ok (.goto 4, 3) := by decide +kernel
theorem dX1_endedAmong_86 : decode cX1_endedAmong 86 = .ok (.iconst 0, 1) := by decide +kernel
theorem dX1_endedAmong_87 : decode cX1_endedAmong 87 = .ok (.istore 6, 2) := by decide +kernel
theorem dX1_endedAmong_89 : decode cX1_endedAmong 89 = .ok (.iload 5, 2) := by decide +kernel
theorem dX1_endedAmong_91 : decode cX1_endedAmong 91 = .ok (.ifCond .ne 8, 3) := by decide +kernel
theorem dX1_endedAmong_94 : decode cX1_endedAmong 94 = .ok (.iload 6, 2) := by decide +kernel
theorem dX1_endedAmong_96 : decode cX1_endedAmong 96 = .ok (.ifCond .eq 10, 3) := by decide +kernel
theorem dX1_endedAmong_99 : decode cX1_endedAmong 99 = .ok (.iload_n 2, 1) := by decide +kernel
theorem dX1_endedAmong_100 : decode cX1_endedAmong 100 = .ok (.iload_n 3, 1) := by decide +kernel
theorem dX1_endedAmong_101 : decode cX1_endedAmong 101 = .ok (.invokestatic 31, 3) := by decide +kernel
theorem dX1_endedAmong_104 : decode cX1_endedAmong 104 = .ok (.ior, 1) := by decide +kernel
theorem dX1_endedAmong_105 : decode cX1_endedAmong 105 = .ok (.istore_n 2, 1) := by decide +kernel
theorem dX1_endedAmong_106 : decode cX1_endedAmong 106 = .ok (.iinc 3 (-1), 3) := by decide +kernel
theorem dX1_endedAmong_109 : decode cX1_endedAmong 109 = .ok (.goto (-100), 3) := by decide +kernel
theorem dX1_endedAmong_112 : decode cX1_endedAmong 112 = .ok (.iload_n 2, 1) := by decide +kernel
theorem dX1_endedAmong_113 : decode cX1_endedAmong 113 = .ok (.ireturn, 1) := by decide +kernel
theorem dX3_reset_0 : decode cX3_reset 0 = .ok (.aload_n 0, 1) := by decide +kernel
theorem dX3_reset_1 : decode cX3_reset 1 = .ok (.getfield 12, 3) := by decide +kernel
theorem dX3_reset_4 : decode cX3_reset 4 = .ok (.invokevirtual 32, 3) := by decide +kernel
theorem dX3_reset_7 : decode cX3_reset 7 = .ok (.iconst 0, 1) := by decide +kernel
theorem dX3_reset_8 : decode cX3_reset 8 = .ok (.istore_n 1, 1) := by decide +kernel
theorem dX3_reset_9 : decode cX3_reset 9 = .ok (.iload_n 1, 1) := by decide +kernel
theorem dX3_reset_10 : decode cX3_reset 10 = .ok (.aload_n 0, 1) := by decide +kernel
theorem dX3_reset_11 : decode cX3_reset 11 = .ok (.getfield 18, 3) := by decide +kernel
theorem dX3_reset_14 : decode cX3_reset 14 = .ok (.arraylength, 1) := by decide +kernel
theorem dX3_reset_15 : decode cX3_reset 15 = .ok (.if_icmp .ge 16, 3) := by decide +kernel
theorem dX3_reset_18 : decode cX3_reset 18 = .ok (.aload_n 0, 1) := by decide +kernel
theorem dX3_reset_19 : decode cX3_reset 19 = .ok (.getfield 18, 3) := by decide +kernel
theorem dX3_reset_22 : decode cX3_reset 22 = .ok (.iload_n 1, 1) := by decide +kernel
theorem dX3_reset_23 : decode cX3_reset 23 = .ok (.iconst 0, 1) := by decide +kernel
theorem dX3_reset_24 : decode cX3_reset 24 = .ok (.iastore, 1) := by decide +kernel
theorem dX3_reset_25 : decode cX3_reset 25 = .ok (.iinc 1 1, 3) := by decide +kernel
theorem dX3_reset_28 : decode cX3_reset 28 = .ok (.goto (-19), 3) := by decide +kernel
theorem dX3_reset_31 : decode cX3_reset 31 = .ok (.aload_n 0, 1) := by decide +kernel
theorem dX3_reset_32 : decode cX3_reset 32 = .ok (.iconst 0, 1) := by decide +kernel
theorem dX3_reset_33 : decode cX3_reset 33 = .ok (.putfield 35, 3) := by decide +kernel
theorem dX3_reset_36 : decode cX3_reset 36 = .ok (.aload_n 0, 1) := by decide +kernel
theorem dX3_reset_37 : decode cX3_reset 37 = .ok (.iconst 0, 1) := by decide +kernel
theorem dX3_reset_38 : decode cX3_reset 38 = .ok (.putfield 39, 3) := by decide +kernel
theorem dX3_reset_41 : decode cX3_reset 41 = .ok (.aload_n 0, 1) := by decide +kernel
theorem dX3_reset_42 : decode cX3_reset 42 = .ok (.iconst 0, 1) := by decide +kernel
theorem dX3_reset_43 : decode cX3_reset 43 = .ok (.putfield 42, 3) := by decide +kernel
theorem dX3_reset_46 : decode cX3_reset 46 = .ok (.aload_n 0, 1) := by decide +kernel
theorem dX3_reset_47 : decode cX3_reset 47 = .ok (.iconst 0, 1) := by decide +kernel
theorem dX3_reset_48 : decode cX3_reset 48 = .ok (.putfield 45, 3) := by decide +kernel
theorem dX3_reset_51 : decode cX3_reset 51 = .ok (.return_, 1) := by decide +kernel
theorem dX3_isAtEnd_0 : decode cX3_isAtEnd 0 = .ok (.aload_n 0, 1) := by decide +kernel
theorem dX3_isAtEnd_1 : decode cX3_isAtEnd 1 = .ok (.getfield 28, 3) := by decide +kernel
theorem dX3_isAtEnd_4 : decode cX3_isAtEnd 4 = .ok (.getfield 48, 3) := by decide +kernel
theorem dX3_isAtEnd_7 : decode cX3_isAtEnd 7 = .ok (.iconst 0, 1) := by decide +kernel
theorem dX3_isAtEnd_8 : decode cX3_isAtEnd 8 = .ok (.aaload, 1) := by decide +kernel
theorem dX3_isAtEnd_9 : decode cX3_isAtEnd 9 = .ok (.getfield 54, 3) := by decide +kernel
theorem dX3_isAtEnd_12 : decode cX3_isAtEnd 12 = .ok (.aload_n 0, 1) := by decide +kernel
theorem dX3_isAtEnd_13 : decode cX3_isAtEnd 13 = .ok (.getfield 28, 3) := by decide +kernel
theorem dX3_isAtEnd_16 : decode cX3_isAtEnd 16 = .ok (.getfield 59, 3) := by decide +kernel
theorem dX3_isAtEnd_19 : decode cX3_isAtEnd 19 = .ok (.iand, 1) := by decide +kernel
theorem dX3_isAtEnd_20 : decode cX3_isAtEnd 20 = .ok (.aload_n 0, 1) := by decide +kernel
theorem dX3_isAtEnd_21 : decode cX3_isAtEnd 21 = .ok (.getfield 12, 3) := by decide +kernel
theorem dX3_isAtEnd_24 : decode cX3_isAtEnd 24 = .ok (.getfield 62, 3) := by decide +kernel
theorem dX3_isAtEnd_27 : decode cX3_isAtEnd 27 = .ok (.iand, 1) := by decide +kernel
theorem dX3_isAtEnd_28 : decode cX3_isAtEnd 28 = .ok (.ifCond .eq 7, 3) := by decide +kernel
theorem dX3_isAtEnd_31 : decode cX3_isAtEnd 31 = .ok (.iconst 1, 1) := by decide +kernel
theorem dX3_isAtEnd_32 : decode cX3_isAtEnd 32 = .ok (.goto 4, 3) := by decide +kernel
theorem dX3_isAtEnd_35 : decode cX3_isAtEnd 35 = .ok (.iconst 0, 1) := by decide +kernel
theorem dX3_isAtEnd_36 : decode cX3_isAtEnd 36 = .ok (.ireturn, 1) := by decide +kernel
theorem dX3_growOlder_0 : decode cX3_growOlder 0 = .ok (.aload_n 0, 1) := by decide +kernel
theorem dX3_growOlder_1 : decode cX3_growOlder 1 = .ok (.dup, 1) := by decide +kernel
theorem dX3_growOlder_2 : decode cX3_growOlder 2 = .ok (.getfield 35, 3) := by decide +kernel
theorem dX3_growOlder_5 : decode cX3_growOlder 5 = .ok (.iconst 1, 1) := by decide +kernel
theorem dX3_growOlder_6 : decode cX3_growOlder 6 = .ok (.iadd, 1) := by decide +kernel
theorem dX3_growOlder_7 : decode cX3_growOlder 7 = .ok (.putfield 35, 3) := by decide +kernel
theorem dX3_growOlder_10 : decode cX3_growOlder 10 = .ok (.iconst 0, 1) := by decide +kernel
theorem dX3_growOlder_11 : decode cX3_growOlder 11 = .ok (.istore_n 1, 1) := by decide +kernel
theorem dX3_growOlder_12 : decode cX3_growOlder 12 = .ok (.iload_n 1, 1) := by decide +kernel
theorem dX3_growOlder_13 : decode cX3_growOlder 13 = .ok (.aload_n 0, 1) := by decide +kernel
theorem dX3_growOlder_14 : decode cX3_growOlder 14 = .ok (.getfield 28, 3) := by decide +kernel
theorem dX3_growOlder_17 : decode cX3_growOlder 17 = .ok (.getfield 86, 3) := by decide +kernel
theorem dX3_growOlder_20 : decode cX3_growOlder 20 = .ok (.if_icmp .ge 36, 3) := by decide +kernel
theorem dX3_growOlder_23 : decode cX3_growOlder 23 = .ok (.aload_n 0, 1) := by decide +kernel
theorem dX3_growOlder_24 : decode cX3_growOlder 24 = .ok (.getfield 12, 3) := by decide +kernel
theorem dX3_growOlder_27 : decode cX3_growOlder 27 = .ok (.getfield 62, 3) := by decide +kernel
theorem dX3_growOlder_30 : decode cX3_growOlder 30 = .ok (.iload_n 1, 1) := by decide +kernel
theorem dX3_growOlder_31 : decode cX3_growOlder 31 = .ok (.invokestatic 89, 3) := by decide +kernel
theorem dX3_growOlder_34 : decode cX3_growOlder 34 = .ok (.ifCond .eq 16, 3) := by decide +kernel
theorem dX3_growOlder_37 : decode cX3_growOlder 37 = .ok (.aload_n 0, 1) := by decide +kernel
theorem dX3_growOlder_38 : decode cX3_growOlder 38 = .ok (.getfield 12, 3) := by decide +kernel
theorem dX3_growOlder_41 : decode cX3_growOlder 41 = .ok (.getfield 93, 3) := by decide +kernel
theorem dX3_growOlder_44 : decode cX3_growOlder 44 = .ok (.iload_n 1, 1) := by decide +kernel
theorem dX3_growOlder_45 : decode cX3_growOlder 45 = .ok (.dup2, 1) := by decide +kernel
theorem dX3_growOlder_46 : decode cX3_growOlder 46 = .ok (.iaload, 1) := by decide +kernel
theorem dX3_growOlder_47 : decode cX3_growOlder 47 = .ok (.iconst 1, 1) := by decide +kernel
theorem dX3_growOlder_48 : decode cX3_growOlder 48 = .ok (.iadd, 1) := by decide +kernel
theorem dX3_growOlder_49 : decode cX3_growOlder 49 = .ok (.iastore, 1) := by decide +kernel
theorem dX3_growOlder_50 : decode cX3_growOlder 50 = .ok (.iinc 1 1, 3) := by decide +kernel
theorem dX3_growOlder_53 : decode cX3_growOlder 53 = .ok (.goto (-41), 3) := by decide +kernel
theorem dX3_growOlder_56 : decode cX3_growOlder 56 = .ok (.return_, 1) := by decide +kernel
theorem dX3_raise_0 : decode cX3_raise 0 = .ok (.aload_n 0, 1) := by decide +kernel
theorem dX3_raise_1 : decode cX3_raise 1 = .ok (.getfield 45, 3) := by decide +kernel
theorem dX3_raise_4 : decode cX3_raise 4 = .ok (.aload_n 0, 1) := by decide +kernel
theorem dX3_raise_5 : decode cX3_raise 5 = .ok (.getfield 22, 3) := by decide +kernel
theorem dX3_raise_8 : decode cX3_raise 8 = .ok (.arraylength, 1) := by decide +kernel
theorem dX3_raise_9 : decode cX3_raise 9 = .ok (.if_icmp .ge 26, 3) := by decide +kernel
theorem dX3_raise_12 : decode cX3_raise 12 = .ok (.aload_n 0, 1) := by decide +kernel
theorem dX3_raise_13 : decode cX3_raise 13 = .ok (.getfield 22, 3) := by decide +kernel
theorem dX3_raise_16 : decode cX3_raise 16 = .ok (.aload_n 0, 1) := by decide +kernel
theorem dX3_raise_17 : decode cX3_raise 17 = .ok (.getfield 45, 3) := by decide +kernel
theorem dX3_raise_20 : decode cX3_raise 20 = .ok (.iload_n 1, 1) := by decide +kernel
theorem dX3_raise_21 : decode cX3_raise 21 = .ok (.iastore, 1) := by decide +kernel
theorem dX3_raise_22 : decode cX3_raise 22 = .ok (.aload_n 0, 1) := by decide +kernel
theorem dX3_raise_23 : decode cX3_raise 23 = .ok (.dup, 1) := by decide +kernel
theorem dX3_raise_24 : decode cX3_raise 24 = .ok (.getfield 45, 3) := by decide +kernel
theorem dX3_raise_27 : decode cX3_raise 27 = .ok (.iconst 1, 1) := by decide +kernel
theorem dX3_raise_28 : decode cX3_raise 28 = .ok (.iadd, 1) := by decide +kernel
theorem dX3_raise_29 : decode cX3_raise 29 = .ok (.putfield 45, 3) := by decide +kernel
theorem dX3_raise_32 : decode cX3_raise 32 = .ok (.goto 13, 3) := by decide +kernel
theorem dX3_raise_35 : decode cX3_raise 35 = .ok (.aload_n 0, 1) := by decide +kernel
theorem dX3_raise_36 : decode cX3_raise 36 = .ok (.dup, 1) := by decide +kernel
theorem dX3_raise_37 : decode cX3_raise 37 = .ok (.getfield 39, 3) := by decide +kernel
theorem dX3_raise_40 : decode cX3_raise 40 = .ok (.iconst 1, 1) := by decide +kernel
theorem dX3_raise_41 : decode cX3_raise 41 = .ok (.iadd, 1) := by decide +kernel
theorem dX3_raise_42 : decode cX3_raise 42 = .ok (.putfield 39, 3) := by decide +kernel
theorem dX3_raise_45 : decode cX3_raise 45 = .ok (.return_, 1) := by decide +kernel
theorem dX3_loseQueue_0 : decode cX3_loseQueue 0 = .ok (.aload_n 0, 1) := by decide +kernel
theorem dX3_loseQueue_1 : decode cX3_loseQueue 1 = .ok (.dup, 1) := by decide +kernel
theorem dX3_loseQueue_2 : decode cX3_loseQueue 2 = .ok (.getfield 39, 3) := by decide +kernel
theorem dX3_loseQueue_5 : decode cX3_loseQueue 5 = .ok (.aload_n 0, 1) := by decide +kernel
theorem dX3_loseQueue_6 : decode cX3_loseQueue 6 = .ok (.getfield 45, 3) := by decide +kernel
theorem dX3_loseQueue_9 : decode cX3_loseQueue 9 = .ok (.iadd, 1) := by decide +kernel
theorem dX3_loseQueue_10 : decode cX3_loseQueue 10 = .ok (.putfield 39, 3) := by decide +kernel
theorem dX3_loseQueue_13 : decode cX3_loseQueue 13 = .ok (.aload_n 0, 1) := by decide +kernel
theorem dX3_loseQueue_14 : decode cX3_loseQueue 14 = .ok (.iconst 0, 1) := by decide +kernel
theorem dX3_loseQueue_15 : decode cX3_loseQueue 15 = .ok (.putfield 45, 3) := by decide +kernel
theorem dX3_loseQueue_18 : decode cX3_loseQueue 18 = .ok (.return_, 1) := by decide +kernel
theorem dX3_nextEvent_0 : decode cX3_nextEvent 0 = .ok (.aload_n 0, 1) := by decide +kernel
theorem dX3_nextEvent_1 : decode cX3_nextEvent 1 = .ok (.getfield 22, 3) := by decide +kernel
theorem dX3_nextEvent_4 : decode cX3_nextEvent 4 = .ok (.iconst 0, 1) := by decide +kernel
theorem dX3_nextEvent_5 : decode cX3_nextEvent 5 = .ok (.iaload, 1) := by decide +kernel
theorem dX3_nextEvent_6 : decode cX3_nextEvent 6 = .ok (.istore_n 1, 1) := by decide +kernel
theorem dX3_nextEvent_7 : decode cX3_nextEvent 7 = .ok (.iconst 1, 1) := by decide +kernel
theorem dX3_nextEvent_8 : decode cX3_nextEvent 8 = .ok (.istore_n 2, 1) := by decide +kernel
theorem dX3_nextEvent_9 : decode cX3_nextEvent 9 = .ok (.iload_n 2, 1) := by decide +kernel
theorem dX3_nextEvent_10 : decode cX3_nextEvent 10 = .ok (.aload_n 0, 1) := by decide +kernel
theorem dX3_nextEvent_11 : decode cX3_nextEvent 11 = .ok (.getfield 22, 3) := by decide +kernel
theorem dX3_nextEvent_14 : decode cX3_nextEvent 14 = .ok (.arraylength, 1) := by decide +kernel
theorem dX3_nextEvent_15 : decode cX3_nextEvent 15 = .ok (.if_icmp .ge 23, 3) := by decide +kernel
theorem dX3_nextEvent_18 : decode cX3_nextEvent 18 = .ok (.aload_n 0, 1) := by decide +kernel
theorem dX3_nextEvent_19 : decode cX3_nextEvent 19 = .ok (.getfield 22, 3) := by decide +kernel
theorem dX3_nextEvent_22 : decode cX3_nextEvent 22 = .ok (.iload_n 2, 1) := by decide +kernel
theorem dX3_nextEvent_23 : decode cX3_nextEvent 23 = .ok (.iconst 1, 1) := by decide +kernel
theorem dX3_nextEvent_24 : decode cX3_nextEvent 24 = .ok (.isub, 1) := by decide +kernel
theorem dX3_nextEvent_25 : decode cX3_nextEvent 25 = .ok (.aload_n 0, 1) := by decide +kernel
theorem dX3_nextEvent_26 : decode cX3_nextEvent 26 = .ok (.getfield 22, 3) := by decide +kernel
theorem dX3_nextEvent_29 : decode cX3_nextEvent 29 = .ok (.iload_n 2, 1) := by decide +kernel
theorem dX3_nextEvent_30 : decode cX3_nextEvent 30 = .ok (.iaload, 1) := by decide +kernel
theorem dX3_nextEvent_31 : decode cX3_nextEvent 31 = .ok (.iastore, 1) := by decide +kernel
theorem dX3_nextEvent_32 : decode cX3_nextEvent 32 = .ok (.iinc 2 1, 3) := by decide +kernel
theorem dX3_nextEvent_35 : decode cX3_nextEvent 35 = .ok (.goto (-26), 3) := by decide +kernel
theorem dX3_nextEvent_38 : decode cX3_nextEvent 38 = .ok (.aload_n 0, 1) := by decide +kernel
theorem dX3_nextEvent_39 : decode cX3_nextEvent 39 = .ok (.dup, 1) := by decide +kernel
theorem dX3_nextEvent_40 : decode cX3_nextEvent 40 = .ok (.getfield 45, 3) := by decide +kernel
theorem dX3_nextEvent_43 : decode cX3_nextEvent 43 = .ok (.iconst 1, 1) := by decide +kernel
theorem dX3_nextEvent_44 : decode cX3_nextEvent 44 = .ok (.isub, 1) := by decide +kernel
theorem dX3_nextEvent_45 : decode cX3_nextEvent 45 = .ok (.putfield 45, 3) := by decide +kernel
theorem dX3_nextEvent_48 : decode cX3_nextEvent 48 = .ok (.iload_n 1, 1) := by decide +kernel
theorem dX3_nextEvent_49 : decode cX3_nextEvent 49 = .ok (.ireturn, 1) := by decide +kernel
theorem dX3_isOpen_0 : decode cX3_isOpen 0 = .ok (.aload_n 0, 1) := by decide +kernel
theorem dX3_isOpen_1 : decode cX3_isOpen 1 = .ok (.getfield 12, 3) := by decide +kernel
theorem dX3_isOpen_4 : decode cX3_isOpen 4 = .ok (.getfield 62, 3) := by decide +kernel
theorem dX3_isOpen_7 : decode cX3_isOpen 7 = .ok (.aload_n 1, 1) := by decide +kernel
theorem dX3_isOpen_8 : decode cX3_isOpen 8 = .ok (.getfield 162, 3) := by decide +kernel
theorem dX3_isOpen_11 : decode cX3_isOpen 11 = .ok (.invokestatic 89, 3) := by decide +kernel
theorem dX3_isOpen_14 : decode cX3_isOpen 14 = .ok (.ifCond .eq 17, 3) := by decide +kernel
theorem dX3_isOpen_17 : decode cX3_isOpen 17 = .ok (.aload_n 1, 1) := by decide +kernel
theorem dX3_isOpen_18 : decode cX3_isOpen 18 = .ok (.aload_n 0, 1) := by decide +kernel
theorem dX3_isOpen_19 : decode cX3_isOpen 19 = .ok (.getfield 12, 3) := by decide +kernel
theorem dX3_isOpen_22 : decode cX3_isOpen 22 = .ok (.getfield 165, 3) := by decide +kernel
theorem dX3_isOpen_25 : decode cX3_isOpen 25 = .ok (.invokevirtual 168, 3) := by decide +kernel
theorem dX3_isOpen_28 : decode cX3_isOpen 28 = .ok (.ifCond .ne 5, 3) := by decide +kernel
theorem dX3_isOpen_31 : decode cX3_isOpen 31 = .ok (.iconst 0, 1) := by decide +kernel
theorem dX3_isOpen_32 : decode cX3_isOpen 32 = .ok (.ireturn, 1) := by decide +kernel
theorem dX3_isOpen_33 : decode cX3_isOpen 33 = .ok (.aload_n 1, 1) := by decide +kernel
theorem dX3_isOpen_34 : decode cX3_isOpen 34 = .ok (.getfield 172, 3) := by decide +kernel
theorem dX3_isOpen_37 : decode cX3_isOpen 37 = .ok (.lookupswitch 61 #[(1, 27), (2, 52)], 27) := by decide +kernel
theorem dX3_isOpen_64 : decode cX3_isOpen 64 = .ok (.aload_n 0, 1) := by decide +kernel
theorem dX3_isOpen_65 : decode cX3_isOpen 65 = .ok (.getfield 12, 3) := by decide +kernel
theorem dX3_isOpen_68 : decode cX3_isOpen 68 = .ok (.getfield 93, 3) := by decide +kernel
theorem dX3_isOpen_71 : decode cX3_isOpen 71 = .ok (.aload_n 1, 1) := by decide +kernel
theorem dX3_isOpen_72 : decode cX3_isOpen 72 = .ok (.getfield 162, 3) := by decide +kernel
theorem dX3_isOpen_75 : decode cX3_isOpen 75 = .ok (.iaload, 1) := by decide +kernel
theorem dX3_isOpen_76 : decode cX3_isOpen 76 = .ok (.aload_n 1, 1) := by decide +kernel
theorem dX3_isOpen_77 : decode cX3_isOpen 77 = .ok (.getfield 175, 3) := by decide +kernel
theorem dX3_isOpen_80 : decode cX3_isOpen 80 = .ok (.if_icmp .ne 7, 3) := by decide +kernel
theorem dX3_isOpen_83 : decode cX3_isOpen 83 = .ok (.iconst 1, 1) := by decide +kernel
theorem dX3_isOpen_84 : decode cX3_isOpen 84 = .ok (.goto 4, 3) := by decide +kernel
theorem dX3_isOpen_87 : decode cX3_isOpen 87 = .ok (.iconst 0, 1) := by decide +kernel
theorem dX3_isOpen_88 : decode cX3_isOpen 88 = .ok (.ireturn, 1) := by decide +kernel
theorem dX3_isOpen_89 : decode cX3_isOpen 89 = .ok (.iload_n 2, 1) := by decide +kernel
theorem dX3_isOpen_90 : decode cX3_isOpen 90 = .ok (.aload_n 1, 1) := by decide +kernel
theorem dX3_isOpen_91 : decode cX3_isOpen 91 = .ok (.getfield 162, 3) := by decide +kernel
theorem dX3_isOpen_94 : decode cX3_isOpen 94 = .ok (.invokestatic 89, 3) := by decide +kernel
theorem dX3_isOpen_97 : decode cX3_isOpen 97 = .ok (.ireturn, 1) := by decide +kernel
theorem dX3_isOpen_98 : decode cX3_isOpen 98 = .ok (.iconst 1, 1) := by decide +kernel
theorem dX3_isOpen_99 : decode cX3_isOpen 99 = .ok (.ireturn, 1) := by decide +kernel
theorem dX3_openBy_0 : decode cX3_openBy 0 = .ok (.aload_n 0, 1) := by decide +kernel
theorem dX3_openBy_1 : decode cX3_openBy 1 = .ok (.getfield 28, 3) := by decide +kernel
theorem dX3_openBy_4 : decode cX3_openBy 4 = .ok (.getfield 149, 3) := by decide +kernel
theorem dX3_openBy_7 : decode cX3_openBy 7 = .ok (.iload_n 1, 1) := by decide +kernel
theorem dX3_openBy_8 : decode cX3_openBy 8 = .ok (.iaload, 1) := by decide +kernel
theorem dX3_openBy_9 : decode cX3_openBy 9 = .ok (.istore_n 2, 1) := by decide +kernel
theorem dX3_openBy_10 : decode cX3_openBy 10 = .ok (.iload_n 2, 1) := by decide +kernel
theorem dX3_openBy_11 : decode cX3_openBy 11 = .ok (.ifCond .ne 5, 3) := by decide +kernel
theorem dX3_openBy_14 : decode cX3_openBy 14 = .ok (.iconst 0, 1) := by decide +kernel
theorem dX3_openBy_15 : decode cX3_openBy 15 = .ok (.ireturn, 1) := by decide +kernel
theorem dX3_openBy_16 : decode cX3_openBy 16 = .ok (.aload_n 0, 1) := by decide +kernel
theorem dX3_openBy_17 : decode cX3_openBy 17 = .ok (.getfield 28, 3) := by decide +kernel
theorem dX3_openBy_20 : decode cX3_openBy 20 = .ok (.aload_n 0, 1) := by decide +kernel
theorem dX3_openBy_21 : decode cX3_openBy 21 = .ok (.getfield 12, 3) := by decide +kernel
theorem dX3_openBy_24 : decode cX3_openBy 24 = .ok (.getfield 62, 3) := by decide +kernel
theorem dX3_openBy_27 : decode cX3_openBy 27 = .ok (.invokevirtual 152, 3) := by decide +kernel
theorem dX3_openBy_30 : decode cX3_openBy 30 = .ok (.istore_n 3, 1) := by decide +kernel
theorem dX3_openBy_31 : decode cX3_openBy 31 = .ok (.iconst 0, 1) := by decide +kernel
theorem dX3_openBy_32 : decode cX3_openBy 32 = .ok (.istore 4, 2) := by decide +kernel
theorem dX3_openBy_34 : decode cX3_openBy 34 = .ok (.iconst 0, 1) := by decide +kernel
theorem dX3_openBy_35 : decode cX3_openBy 35 = .ok (.istore 5, 2) := by decide +kernel
theorem dX3_openBy_37 : decode cX3_openBy 37 = .ok (.iload 5, 2) := by decide +kernel
theorem dX3_openBy_39 : decode cX3_openBy 39 = .ok (.aload_n 0, 1) := by decide +kernel
theorem dX3_openBy_40 : decode cX3_openBy 40 = .ok (.getfield 28, 3) := by decide +kernel
theorem dX3_openBy_43 : decode cX3_openBy 43 = .ok (.getfield 155, 3) := by decide +kernel
theorem dX3_openBy_46 : decode cX3_openBy 46 = .ok (.if_icmp .ge 46, 3) := by decide +kernel
theorem dX3_openBy_49 : decode cX3_openBy 49 = .ok (.iload_n 2, 1) := by decide +kernel
theorem dX3_openBy_50 : decode cX3_openBy 50 = .ok (.iload 5, 2) := by decide +kernel
theorem dX3_openBy_52 : decode cX3_openBy 52 = .ok (.invokestatic 89, 3) := by decide +kernel
theorem dX3_openBy_55 : decode cX3_openBy 55 = .ok (.ifCond .eq 31, 3) := by decide +kernel
theorem dX3_openBy_58 : decode cX3_openBy 58 = .ok (.aload_n 0, 1) := by decide +kernel
theorem dX3_openBy_59 : decode cX3_openBy 59 = .ok (.aload_n 0, 1) := by decide +kernel
theorem dX3_openBy_60 : decode cX3_openBy 60 = .ok (.getfield 28, 3) := by decide +kernel
theorem dX3_openBy_63 : decode cX3_openBy 63 = .ok (.getfield 106, 3) := by decide +kernel
theorem dX3_openBy_66 : decode cX3_openBy 66 = .ok (.iload 5, 2) := by decide +kernel
theorem dX3_openBy_68 : decode cX3_openBy 68 = .ok (.aaload, 1) := by decide +kernel
theorem dX3_openBy_69 : decode cX3_openBy 69 = .ok (.iload_n 3, 1) := by decide +kernel
theorem dX3_openBy_70 : decode cX3_openBy 70 = .ok (.invokevirtual 158, 3) := by decide +kernel
theorem dX3_openBy_73 : decode cX3_openBy 73 = .ok (.ifCond .eq 13, 3) := by decide +kernel
theorem dX3_openBy_76 : decode cX3_openBy 76 = .ok (.iload 4, 2) := by decide +kernel
theorem dX3_openBy_78 : decode cX3_openBy 78 = .ok (.iload 5, 2) := by decide +kernel
theorem dX3_openBy_80 : decode cX3_openBy 80 = .ok (.invokestatic 143, 3) := by decide +kernel
theorem dX3_openBy_83 : decode cX3_openBy 83 = .ok (.ior, 1) := by decide +kernel
theorem dX3_openBy_84 : decode cX3_openBy 84 = .ok (.istore 4, 2) := by decide +kernel
theorem dX3_openBy_86 : decode cX3_openBy 86 = .ok (.iinc 5 1, 3) := by decide +kernel
theorem dX3_openBy_89 : decode cX3_openBy 89 = .ok (.goto (-52), 3) := by decide +kernel
theorem dX3_openBy_92 : decode cX3_openBy 92 = .ok (.iload 4, 2) := by decide +kernel
theorem dX3_openBy_94 : decode cX3_openBy 94 = .ok (.ireturn, 1) := by decide +kernel
theorem dX3_smallestOf_0 : decode cX3_smallestOf 0 = .ok (.iload_n 0, 1) := by decide +kernel
theorem dX3_smallestOf_1 : decode cX3_smallestOf 1 = .ok (.iload_n 0, 1) := by decide +kernel
theorem dX3_smallestOf_2 : decode cX3_smallestOf 2 = .ok (.ineg, 1) := by decide +kernel
theorem dX3_smallestOf_3 : decode cX3_smallestOf 3 = .ok (.iand, 1) := by decide +kernel
theorem dX3_smallestOf_4 : decode cX3_smallestOf 4 = .ok (.iconst 1, 1) := by decide +kernel
theorem dX3_smallestOf_5 : decode cX3_smallestOf 5 = .ok (.isub, 1) := by decide +kernel
theorem dX3_smallestOf_6 : decode cX3_smallestOf 6 = .ok (.invokestatic 196, 3) := by decide +kernel
theorem dX3_smallestOf_9 : decode cX3_smallestOf 9 = .ok (.ireturn, 1) := by decide +kernel
theorem dX3_nearestOpen_0 : decode cX3_nearestOpen 0 = .ok (.iload_n 1, 1) := by decide +kernel
theorem dX3_nearestOpen_1 : decode cX3_nearestOpen 1 = .ok (.istore_n 3, 1) := by decide +kernel
theorem dX3_nearestOpen_2 : decode cX3_nearestOpen 2 = .ok (.iload_n 3, 1) := by decide +kernel
theorem dX3_nearestOpen_3 : decode cX3_nearestOpen 3 = .ok (.ifCond .lt 80, 3) := by decide +kernel
theorem dX3_nearestOpen_6 : decode cX3_nearestOpen 6 = .ok (.iload_n 3, 1) := by decide +kernel
theorem dX3_nearestOpen_7 : decode cX3_nearestOpen 7 = .ok (.iload_n 1, 1) := by decide +kernel
theorem dX3_nearestOpen_8 : decode cX3_nearestOpen 8 = .ok (.if_icmp .eq 22, 3) := by decide +kernel
theorem dX3_nearestOpen_11 : decode cX3_nearestOpen 11 = .ok (.aload_n 0, 1) := by decide +kernel
theorem dX3_nearestOpen_12 : decode cX3_nearestOpen 12 = .ok (.getfield 28, 3) := by decide +kernel
theorem dX3_nearestOpen_15 : decode cX3_nearestOpen 15 = .ok (.getfield 48, 3) := by decide +kernel
theorem dX3_nearestOpen_18 : decode cX3_nearestOpen 18 = .ok (.iload_n 3, 1) := by decide +kernel
theorem dX3_nearestOpen_19 : decode cX3_nearestOpen 19 = .ok (.aaload, 1) := by decide +kernel
theorem dX3_nearestOpen_20 : decode cX3_nearestOpen 20 = .ok (.getfield 187, 3) := by decide +kernel
theorem dX3_nearestOpen_23 : decode cX3_nearestOpen 23 = .ok (.iload_n 1, 1) := by decide +kernel
theorem dX3_nearestOpen_24 : decode cX3_nearestOpen 24 = .ok (.invokestatic 89, 3) := by decide +kernel
theorem dX3_nearestOpen_27 : decode cX3_nearestOpen 27 = .ok (.ifCond .eq 7, 3) := by decide +kernel
theorem dX3_nearestOpen_30 : decode cX3_nearestOpen 30 = .ok (.iconst 1, 1) := by decide +kernel
theorem dX3_nearestOpen_31 : decode cX3_nearestOpen 31 = .ok (.goto 4, 3) := by decide +kernel
theorem dX3_nearestOpen_34 : decode cX3_nearestOpen 34 = .ok (.iconst 0, 1) := by decide +kernel
theorem dX3_nearestOpen_35 : decode cX3_nearestOpen 35 = .ok (.istore 4, 2) := by decide +kernel
theorem dX3_nearestOpen_37 : decode cX3_nearestOpen 37 = .ok (.iload 4, 2) := by decide +kernel
theorem dX3_nearestOpen_39 : decode cX3_nearestOpen 39 = .ok (.ifCond .eq 38, 3) := by decide +kernel
theorem dX3_nearestOpen_42 : decode cX3_nearestOpen 42 = .ok (.aload_n 0, 1) := by decide +kernel
theorem dX3_nearestOpen_43 : decode cX3_nearestOpen 43 = .ok (.getfield 28, 3) := by decide +kernel
theorem dX3_nearestOpen_46 : decode cX3_nearestOpen 46 = .ok (.getfield 48, 3) := by decide +kernel
theorem dX3_nearestOpen_49 : decode cX3_nearestOpen 49 = .ok (.iload_n 3, 1) := by decide +kernel
theorem dX3_nearestOpen_50 : decode cX3_nearestOpen 50 = .ok (.aaload, 1) := by decide +kernel
theorem dX3_nearestOpen_51 : decode cX3_nearestOpen 51 = .ok (.getfield 190, 3) := by decide +kernel
theorem dX3_nearestOpen_54 : decode cX3_nearestOpen 54 = .ok (.iload_n 2, 1) := by decide +kernel
theorem dX3_nearestOpen_55 : decode cX3_nearestOpen 55 = .ok (.iand, 1) := by decide +kernel
theorem dX3_nearestOpen_56 : decode cX3_nearestOpen 56 = .ok (.ifCond .eq 21, 3) := by decide +kernel
theorem dX3_nearestOpen_59 : decode cX3_nearestOpen 59 = .ok (.aload_n 0, 1) := by decide +kernel
theorem dX3_nearestOpen_60 : decode cX3_nearestOpen 60 = .ok (.getfield 28, 3) := by decide +kernel
theorem dX3_nearestOpen_63 : decode cX3_nearestOpen 63 = .ok (.getfield 48, 3) := by decide +kernel
theorem dX3_nearestOpen_66 : decode cX3_nearestOpen 66 = .ok (.iload_n 3, 1) := by decide +kernel
theorem dX3_nearestOpen_67 : decode cX3_nearestOpen 67 = .ok (.aaload, 1) := by decide +kernel
theorem dX3_nearestOpen_68 : decode cX3_nearestOpen 68 = .ok (.getfield 190, 3) := by decide +kernel
theorem dX3_nearestOpen_71 : decode cX3_nearestOpen 71 = .ok (.iload_n 2, 1) := by decide +kernel
theorem dX3_nearestOpen_72 : decode cX3_nearestOpen 72 = .ok (.iand, 1) := by decide +kernel
theorem dX3_nearestOpen_73 : decode cX3_nearestOpen 73 = .ok (.invokestatic 193, 3) := by decide +kernel
theorem dX3_nearestOpen_76 : decode cX3_nearestOpen 76 = .ok (.ireturn, 1) := by decide +kernel
theorem dX3_nearestOpen_77 : decode cX3_nearestOpen 77 = .ok (.iinc 3 (-1), 3) := by decide +kernel
theorem dX3_nearestOpen_80 : decode cX3_nearestOpen 80 = .ok (.goto (-78), 3) := by decide +kernel
theorem dX3_nearestOpen_83 : decode cX3_nearestOpen 83 = .ok (.iconst (-1), 1) := by decide +kernel
theorem dX3_nearestOpen_84 : decode cX3_nearestOpen 84 = .ok (.ireturn, 1) := by decide +kernel
theorem dX3_leftBy_0 : decode cX3_leftBy 0 = .ok (.aload_n 1, 1) := by decide +kernel
theorem dX3_leftBy_1 : decode cX3_leftBy 1 = .ok (.getfield 130, 3) := by decide +kernel
theorem dX3_leftBy_4 : decode cX3_leftBy 4 = .ok (.iconst (-1), 1) := by decide +kernel
theorem dX3_leftBy_5 : decode cX3_leftBy 5 = .ok (.if_icmp .ne 7, 3) := by decide +kernel
theorem dX3_leftBy_8 : decode cX3_leftBy 8 = .ok (.iconst 0, 1) := by decide +kernel
theorem dX3_leftBy_9 : decode cX3_leftBy 9 = .ok (.goto 26, 3) := by decide +kernel
theorem dX3_leftBy_12 : decode cX3_leftBy 12 = .ok (.aload_n 0, 1) := by decide +kernel
theorem dX3_leftBy_13 : decode cX3_leftBy 13 = .ok (.getfield 28, 3) := by decide +kernel
theorem dX3_leftBy_16 : decode cX3_leftBy 16 = .ok (.getfield 48, 3) := by decide +kernel
theorem dX3_leftBy_19 : decode cX3_leftBy 19 = .ok (.aload_n 1, 1) := by decide +kernel
theorem dX3_leftBy_20 : decode cX3_leftBy 20 = .ok (.getfield 136, 3) := by decide +kernel
theorem dX3_leftBy_23 : decode cX3_leftBy 23 = .ok (.aaload, 1) := by decide +kernel
theorem dX3_leftBy_24 : decode cX3_leftBy 24 = .ok (.getfield 187, 3) := by decide +kernel
theorem dX3_leftBy_27 : decode cX3_leftBy 27 = .ok (.aload_n 0, 1) := by decide +kernel
theorem dX3_leftBy_28 : decode cX3_leftBy 28 = .ok (.getfield 12, 3) := by decide +kernel
theorem dX3_leftBy_31 : decode cX3_leftBy 31 = .ok (.getfield 62, 3) := by decide +kernel
theorem dX3_leftBy_34 : decode cX3_leftBy 34 = .ok (.iand, 1) := by decide +kernel
theorem dX3_leftBy_35 : decode cX3_leftBy 35 = .ok (.ireturn, 1) := by decide +kernel
theorem dX3_takeIfFree_0 : decode cX3_takeIfFree 0 = .ok (.aload_n 0, 1) := by decide +kernel
theorem dX3_takeIfFree_1 : decode cX3_takeIfFree 1 = .ok (.getfield 28, 3) := by decide +kernel
theorem dX3_takeIfFree_4 : decode cX3_takeIfFree 4 = .ok (.getfield 106, 3) := by decide +kernel
theorem dX3_takeIfFree_7 : decode cX3_takeIfFree 7 = .ok (.iload_n 1, 1) := by decide +kernel
theorem dX3_takeIfFree_8 : decode cX3_takeIfFree 8 = .ok (.aaload, 1) := by decide +kernel
theorem dX3_takeIfFree_9 : decode cX3_takeIfFree 9 = .ok (.astore_n 2, 1) := by decide +kernel
theorem dX3_takeIfFree_10 : decode cX3_takeIfFree 10 = .ok (.aload_n 0, 1) := by decide +kernel
theorem dX3_takeIfFree_11 : decode cX3_takeIfFree 11 = .ok (.aload_n 2, 1) := by decide +kernel
theorem dX3_takeIfFree_12 : decode cX3_takeIfFree 12 = .ok (.invokevirtual 110, 3) := by decide +kernel
theorem dX3_takeIfFree_15 : decode cX3_takeIfFree 15 = .ok (.istore_n 3, 1) := by decide +kernel
theorem dX3_takeIfFree_16 : decode cX3_takeIfFree 16 = .ok (.iconst 0, 1) := by decide +kernel
theorem dX3_takeIfFree_17 : decode cX3_takeIfFree 17 = .ok (.istore 4, 2) := by decide +kernel
theorem dX3_takeIfFree_19 : decode cX3_takeIfFree 19 = .ok (.iload 4, 2) := by decide +kernel
theorem dX3_takeIfFree_21 : decode cX3_takeIfFree 21 = .ok (.aload_n 0, 1) := by decide +kernel
theorem dX3_takeIfFree_22 : decode cX3_takeIfFree 22 = .ok (.getfield 103, 3) := by decide +kernel
theorem dX3_takeIfFree_25 : decode cX3_takeIfFree 25 = .ok (.if_icmp .ge 64, 3) := by decide +kernel
theorem dX3_takeIfFree_28 : decode cX3_takeIfFree 28 = .ok (.aload_n 0, 1) := by decide +kernel
theorem dX3_takeIfFree_29 : decode cX3_takeIfFree 29 = .ok (.getfield 28, 3) := by decide +kernel
theorem dX3_takeIfFree_32 : decode cX3_takeIfFree 32 = .ok (.getfield 106, 3) := by decide +kernel
theorem dX3_takeIfFree_35 : decode cX3_takeIfFree 35 = .ok (.aload_n 0, 1) := by decide +kernel
theorem dX3_takeIfFree_36 : decode cX3_takeIfFree 36 = .ok (.getfield 25, 3) := by decide +kernel
theorem dX3_takeIfFree_39 : decode cX3_takeIfFree 39 = .ok (.iload 4, 2) := by decide +kernel
theorem dX3_takeIfFree_41 : decode cX3_takeIfFree 41 = .ok (.iaload, 1) := by decide +kernel
theorem dX3_takeIfFree_42 : decode cX3_takeIfFree 42 = .ok (.aaload, 1) := by decide +kernel
theorem dX3_takeIfFree_43 : decode cX3_takeIfFree 43 = .ok (.astore 5, 2) := by decide +kernel
theorem dX3_takeIfFree_45 : decode cX3_takeIfFree 45 = .ok (.aload_n 0, 1) := by decide +kernel
theorem dX3_takeIfFree_46 : decode cX3_takeIfFree 46 = .ok (.aload 5, 2) := by decide +kernel
theorem dX3_takeIfFree_48 : decode cX3_takeIfFree 48 = .ok (.invokevirtual 110, 3) := by decide +kernel
theorem dX3_takeIfFree_51 : decode cX3_takeIfFree 51 = .ok (.iload_n 3, 1) := by decide +kernel
theorem dX3_takeIfFree_52 : decode cX3_takeIfFree 52 = .ok (.iand, 1) := by decide +kernel
theorem dX3_takeIfFree_53 : decode cX3_takeIfFree 53 = .ok (.ifCond .eq 30, 3) := by decide +kernel
theorem dX3_takeIfFree_56 : decode cX3_takeIfFree 56 = .ok (.aload_n 0, 1) := by decide +kernel
theorem dX3_takeIfFree_57 : decode cX3_takeIfFree 57 = .ok (.getfield 28, 3) := by decide +kernel
theorem dX3_takeIfFree_60 : decode cX3_takeIfFree 60 = .ok (.getfield 48, 3) := by decide +kernel
theorem dX3_takeIfFree_63 : decode cX3_takeIfFree 63 = .ok (.aload 5, 2) := by decide +kernel
theorem dX3_takeIfFree_65 : decode cX3_takeIfFree 65 = .ok (.getfield 162, 3) := by decide +kernel
theorem dX3_takeIfFree_68 : decode cX3_takeIfFree 68 = .ok (.aaload, 1) := by decide +kernel
theorem dX3_takeIfFree_69 : decode cX3_takeIfFree 69 = .ok (.getfield 187, 3) := by decide +kernel
theorem dX3_takeIfFree_72 : decode cX3_takeIfFree 72 = .ok (.aload_n 2, 1) := by decide +kernel
theorem dX3_takeIfFree_73 : decode cX3_takeIfFree 73 = .ok (.getfield 162, 3) := by decide +kernel
theorem dX3_takeIfFree_76 : decode cX3_takeIfFree 76 = .ok (.invokestatic 89, 3) := by decide +kernel
theorem dX3_takeIfFree_79 : decode cX3_takeIfFree 79 = .ok (.ifCond .ne 4, 3) := by decide +kernel
theorem dX3_takeIfFree_82 : decode cX3_takeIfFree 82 = .ok (.return_, 1) := by decide +kernel
theorem dX3_takeIfFree_83 : decode cX3_takeIfFree 83 = .ok (.iinc 4 1, 3) := by decide +kernel
theorem dX3_takeIfFree_86 : decode cX3_takeIfFree 86 = .ok (.goto (-67), 3) := by decide +kernel
theorem dX3_takeIfFree_89 : decode cX3_takeIfFree 89 = .ok (.iconst 0, 1) := by decide +kernel
theorem dX3_takeIfFree_90 : decode cX3_takeIfFree 90 = .ok (.istore 4, 2) := by decide +kernel
theorem dX3_takeIfFree_92 : decode cX3_takeIfFree 92 = .ok (.iconst 0, 1) := by decide +kernel
theorem dX3_takeIfFree_93 : decode cX3_takeIfFree 93 = .ok (.istore 5, 2) := by decide +kernel
theorem dX3_takeIfFree_95 : decode cX3_takeIfFree 95 = .ok (.iload 5, 2) := by decide +kernel
theorem dX3_takeIfFree_97 : decode cX3_takeIfFree 97 = .ok (.aload_n 0, 1) := by decide +kernel
theorem dX3_takeIfFree_98 : decode cX3_takeIfFree 98 = .ok (.getfield 103, 3) := by decide +kernel
theorem dX3_takeIfFree_101 : decode cX3_takeIfFree 101 = .ok (.if_icmp .ge 50, 3) := by decide +kernel
theorem dX3_takeIfFree_104 : decode cX3_takeIfFree 104 = .ok (.aload_n 0, 1) := by decide +kernel
theorem dX3_takeIfFree_105 : decode cX3_takeIfFree 105 = .ok (.aload_n 0, 1) := by decide +kernel
theorem dX3_takeIfFree_106 : decode cX3_takeIfFree 106 = .ok (.getfield 28, 3) := by decide +kernel
theorem dX3_takeIfFree_109 : decode cX3_takeIfFree 109 = .ok (.getfield 106, 3) := by decide +kernel
theorem dX3_takeIfFree_112 : decode cX3_takeIfFree 112 = .ok (.aload_n 0, 1) := by decide +kernel
theorem dX3_takeIfFree_113 : decode cX3_takeIfFree 113 = .ok (.getfield 25, 3) := by decide +kernel
theorem dX3_takeIfFree_116 : decode cX3_takeIfFree 116 = .ok (.iload 5, 2) := by decide +kernel
theorem dX3_takeIfFree_118 : decode cX3_takeIfFree 118 = .ok (.iaload, 1) := by decide +kernel
theorem dX3_takeIfFree_119 : decode cX3_takeIfFree 119 = .ok (.aaload, 1) := by decide +kernel
theorem dX3_takeIfFree_120 : decode cX3_takeIfFree 120 = .ok (.invokevirtual 110, 3) := by decide +kernel
theorem dX3_takeIfFree_123 : decode cX3_takeIfFree 123 = .ok (.iload_n 3, 1) := by decide +kernel
theorem dX3_takeIfFree_124 : decode cX3_takeIfFree 124 = .ok (.iand, 1) := by decide +kernel
theorem dX3_takeIfFree_125 : decode cX3_takeIfFree 125 = .ok (.ifCond .ne 20, 3) := by decide +kernel
theorem dX3_takeIfFree_128 : decode cX3_takeIfFree 128 = .ok (.aload_n 0, 1) := by decide +kernel
theorem dX3_takeIfFree_129 : decode cX3_takeIfFree 129 = .ok (.getfield 25, 3) := by decide +kernel
theorem dX3_takeIfFree_132 : decode cX3_takeIfFree 132 = .ok (.iload 4, 2) := by decide +kernel
theorem dX3_takeIfFree_134 : decode cX3_takeIfFree 134 = .ok (.aload_n 0, 1) := by decide +kernel
theorem dX3_takeIfFree_135 : decode cX3_takeIfFree 135 = .ok (.getfield 25, 3) := by decide +kernel
theorem dX3_takeIfFree_138 : decode cX3_takeIfFree 138 = .ok (.iload 5, 2) := by decide +kernel
theorem dX3_takeIfFree_140 : decode cX3_takeIfFree 140 = .ok (.iaload, 1) := by decide +kernel
theorem dX3_takeIfFree_141 : decode cX3_takeIfFree 141 = .ok (.iastore, 1) := by decide +kernel
theorem dX3_takeIfFree_142 : decode cX3_takeIfFree 142 = .ok (.iinc 4 1, 3) := by decide +kernel
theorem dX3_takeIfFree_145 : decode cX3_takeIfFree 145 = .ok (.iinc 5 1, 3) := by decide +kernel
theorem dX3_takeIfFree_148 : decode cX3_takeIfFree 148 = .ok (.goto (-53), 3) := by decide +kernel
theorem dX3_takeIfFree_151 : decode cX3_takeIfFree 151 = .ok (.aload_n 0, 1) := by decide +kernel
theorem dX3_takeIfFree_152 : decode cX3_takeIfFree 152 = .ok (.getfield 25, 3) := by decide +kernel
theorem dX3_takeIfFree_155 : decode cX3_takeIfFree 155 = .ok (.iload 4, 2) := by decide +kernel
theorem dX3_takeIfFree_157 : decode cX3_takeIfFree 157 = .ok (.iload_n 1, 1) := by decide +kernel
theorem dX3_takeIfFree_158 : decode cX3_takeIfFree 158 = .ok (.iastore, 1) := by decide +kernel
theorem dX3_takeIfFree_159 : decode cX3_takeIfFree 159 = .ok (.aload_n 0, 1) := by decide +kernel
theorem dX3_takeIfFree_160 : decode cX3_takeIfFree 160 = .ok (.iload 4, 2) := by decide +kernel
theorem dX3_takeIfFree_162 : decode cX3_takeIfFree 162 = .ok (.iconst 1, 1) := by decide +kernel
theorem dX3_takeIfFree_163 : decode cX3_takeIfFree 163 = .ok (.iadd, 1) := by decide +kernel
theorem dX3_takeIfFree_164 : decode cX3_takeIfFree 164 = .ok (.putfield 103, 3) := by decide +kernel
theorem dX3_takeIfFree_167 : decode cX3_takeIfFree 167 = .ok (.return_, 1) := by decide +kernel
theorem dX3_choose_0 : decode cX3_choose 0 = .ok (.aload_n 0, 1) := by decide +kernel
theorem dX3_choose_1 : decode cX3_choose 1 = .ok (.iconst 0, 1) := by decide +kernel
theorem dX3_choose_2 : decode cX3_choose 2 = .ok (.putfield 103, 3) := by decide +kernel
theorem dX3_choose_5 : decode cX3_choose 5 = .ok (.iconst 0, 1) := by decide +kernel
theorem dX3_choose_6 : decode cX3_choose 6 = .ok (.istore_n 2, 1) := by decide +kernel
theorem dX3_choose_7 : decode cX3_choose 7 = .ok (.aload_n 0, 1) := by decide +kernel
theorem dX3_choose_8 : decode cX3_choose 8 = .ok (.getfield 28, 3) := by decide +kernel
theorem dX3_choose_11 : decode cX3_choose 11 = .ok (.getfield 178, 3) := by decide +kernel
theorem dX3_choose_14 : decode cX3_choose 14 = .ok (.aload_n 0, 1) := by decide +kernel
theorem dX3_choose_15 : decode cX3_choose 15 = .ok (.getfield 12, 3) := by decide +kernel
theorem dX3_choose_18 : decode cX3_choose 18 = .ok (.getfield 62, 3) := by decide +kernel
theorem dX3_choose_21 : decode cX3_choose 21 = .ok (.iand, 1) := by decide +kernel
theorem dX3_choose_22 : decode cX3_choose 22 = .ok (.istore_n 3, 1) := by decide +kernel
theorem dX3_choose_23 : decode cX3_choose 23 = .ok (.iconst 0, 1) := by decide +kernel
theorem dX3_choose_24 : decode cX3_choose 24 = .ok (.istore 4, 2) := by decide +kernel
theorem dX3_choose_26 : decode cX3_choose 26 = .ok (.iload 4, 2) := by decide +kernel
theorem dX3_choose_28 : decode cX3_choose 28 = .ok (.aload_n 0, 1) := by decide +kernel
theorem dX3_choose_29 : decode cX3_choose 29 = .ok (.getfield 28, 3) := by decide +kernel
theorem dX3_choose_32 : decode cX3_choose 32 = .ok (.getfield 86, 3) := by decide +kernel
theorem dX3_choose_35 : decode cX3_choose 35 = .ok (.if_icmp .ge 60, 3) := by decide +kernel
theorem dX3_choose_38 : decode cX3_choose 38 = .ok (.iload_n 3, 1) := by decide +kernel
theorem dX3_choose_39 : decode cX3_choose 39 = .ok (.iload 4, 2) := by decide +kernel
theorem dX3_choose_41 : decode cX3_choose 41 = .ok (.invokestatic 89, 3) := by decide +kernel
theorem dX3_choose_44 : decode cX3_choose 44 = .ok (.ifCond .eq 13, 3) := by decide +kernel
theorem dX3_choose_47 : decode cX3_choose 47 = .ok (.aload_n 0, 1) := by decide +kernel
theorem dX3_choose_48 : decode cX3_choose 48 = .ok (.iload 4, 2) := by decide +kernel
theorem dX3_choose_50 : decode cX3_choose 50 = .ok (.iload_n 1, 1) := by decide +kernel
theorem dX3_choose_51 : decode cX3_choose 51 = .ok (.invokevirtual 181, 3) := by decide +kernel
theorem dX3_choose_54 : decode cX3_choose 54 = .ok (.goto 4, 3) := by decide +kernel
theorem dX3_choose_57 : decode cX3_choose 57 = .ok (.iconst (-1), 1) := by decide +kernel
theorem dX3_choose_58 : decode cX3_choose 58 = .ok (.istore 5, 2) := by decide +kernel
theorem dX3_choose_60 : decode cX3_choose 60 = .ok (.iload 5, 2) := by decide +kernel
theorem dX3_choose_62 : decode cX3_choose 62 = .ok (.iconst (-1), 1) := by decide +kernel
theorem dX3_choose_63 : decode cX3_choose 63 = .ok (.if_icmp .eq 26, 3) := by decide +kernel
theorem dX3_choose_66 : decode cX3_choose 66 = .ok (.iload_n 2, 1) := by decide +kernel
theorem dX3_choose_67 : decode cX3_choose 67 = .ok (.iload 5, 2) := by decide +kernel
theorem dX3_choose_69 : decode cX3_choose 69 = .ok (.invokestatic 89, 3) := by decide +kernel
theorem dX3_choose_72 : decode cX3_choose 72 = .ok (.ifCond .ne 17, 3) := by decide +kernel
theorem dX3_choose_75 : decode cX3_choose 75 = .ok (.iload_n 2, 1) := by decide +kernel
theorem dX3_choose_76 : decode cX3_choose 76 = .ok (.iload 5, 2) := by decide +kernel
theorem dX3_choose_78 : decode cX3_choose 78 = .ok (.invokestatic 143, 3) := by decide +kernel
theorem dX3_choose_81 : decode cX3_choose 81 = .ok (.ior, 1) := by decide +kernel
theorem dX3_choose_82 : decode cX3_choose 82 = .ok (.istore_n 2, 1) := by decide +kernel
theorem dX3_choose_83 : decode cX3_choose 83 = .ok (.aload_n 0, 1) := by decide +kernel
theorem dX3_choose_84 : decode cX3_choose 84 = .ok (.iload 5, 2) := by decide +kernel
theorem dX3_choose_86 : decode cX3_choose 86 = .ok (.invokevirtual 184, 3) := by decide +kernel
theorem dX3_choose_89 : decode cX3_choose 89 = .ok (.iinc 4 1, 3) := by decide +kernel
theorem dX3_choose_92 : decode cX3_choose 92 = .ok (.goto (-66), 3) := by decide +kernel
theorem dX3_choose_95 : decode cX3_choose 95 = .ok (.return_, 1) := by decide +kernel
theorem dX3_makeRecords_0 : decode cX3_makeRecords 0 = .ok (.iconst 0, 1) := by decide +kernel
theorem dX3_makeRecords_1 : decode cX3_makeRecords 1 = .ok (.istore_n 2, 1) := by decide +kernel
theorem dX3_makeRecords_2 : decode cX3_makeRecords 2 = .ok (.iload_n 2, 1) := by decide +kernel
theorem dX3_makeRecords_3 : decode cX3_makeRecords 3 = .ok (.aload_n 0, 1) := by decide +kernel
theorem dX3_makeRecords_4 : decode cX3_makeRecords 4 = .ok (.getfield 28, 3) := by decide +kernel
theorem dX3_makeRecords_7 : decode cX3_makeRecords 7 = .ok (.getfield 86, 3) := by decide +kernel
theorem dX3_makeRecords_10 : decode cX3_makeRecords 10 = .ok (.if_icmp .ge 101, 3) := by decide +kernel
theorem dX3_makeRecords_13 : decode cX3_makeRecords 13 = .ok (.aload_n 0, 1) := by decide +kernel
theorem dX3_makeRecords_14 : decode cX3_makeRecords 14 = .ok (.getfield 28, 3) := by decide +kernel
theorem dX3_makeRecords_17 : decode cX3_makeRecords 17 = .ok (.getfield 48, 3) := by decide +kernel
theorem dX3_makeRecords_20 : decode cX3_makeRecords 20 = .ok (.iload_n 2, 1) := by decide +kernel
theorem dX3_makeRecords_21 : decode cX3_makeRecords 21 = .ok (.aaload, 1) := by decide +kernel
theorem dX3_makeRecords_22 : decode cX3_makeRecords 22 = .ok (.astore_n 3, 1) := by decide +kernel
theorem dX3_makeRecords_23 : decode cX3_makeRecords 23 = .ok (.aload_n 3, 1) := by decide +kernel
theorem dX3_makeRecords_24 : decode cX3_makeRecords 24 = .ok (.invokevirtual 201, 3) := by decide +kernel
theorem dX3_makeRecords_27 : decode cX3_makeRecords 27 = .ok (.ifCond .eq 78, 3) := by decide +kernel
theorem dX3_makeRecords_30 : decode cX3_makeRecords 30 = .ok (.iload_n 1, 1) := by decide +kernel
theorem dX3_makeRecords_31 : decode cX3_makeRecords 31 = .ok (.aload_n 3, 1) := by decide +kernel
theorem dX3_makeRecords_32 : decode cX3_makeRecords 32 = .ok (.getfield 204, 3) := by decide +kernel
theorem dX3_makeRecords_35 : decode cX3_makeRecords 35 = .ok (.invokestatic 89, 3) := by decide +kernel
theorem dX3_makeRecords_38 : decode cX3_makeRecords 38 = .ok (.ifCond .eq 67, 3) := by decide +kernel
theorem dX3_makeRecords_41 : decode cX3_makeRecords 41 = .ok (.aload_n 0, 1) := by decide +kernel
theorem dX3_makeRecords_42 : decode cX3_makeRecords 42 = .ok (.getfield 28, 3) := by decide +kernel
theorem dX3_makeRecords_45 : decode cX3_makeRecords 45 = .ok (.getfield 48, 3) := by decide +kernel
theorem dX3_makeRecords_48 : decode cX3_makeRecords 48 = .ok (.aload_n 3, 1) := by decide +kernel
theorem dX3_makeRecords_49 : decode cX3_makeRecords 49 = .ok (.getfield 204, 3) := by decide +kernel
theorem dX3_makeRecords_52 : decode cX3_makeRecords 52 = .ok (.aaload, 1) := by decide +kernel
theorem dX3_makeRecords_53 : decode cX3_makeRecords 53 = .ok (.astore 4, 2) := by decide +kernel
theorem dX3_makeRecords_55 : decode cX3_makeRecords 55 = .ok (.aload_n 3, 1) := by decide +kernel
theorem dX3_makeRecords_56 : decode cX3_makeRecords 56 = .ok (.getfield 207, 3) := by decide +kernel
theorem dX3_makeRecords_59 : decode cX3_makeRecords 59 = .ok (.iconst 3, 1) := by decide +kernel
theorem dX3_makeRecords_60 : decode cX3_makeRecords 60 = .ok (.if_icmp .ne 11, 3) := by decide +kernel
theorem dX3_makeRecords_63 : decode cX3_makeRecords 63 = .ok (.aload 4, 2) := by decide +kernel
theorem dX3_makeRecords_65 : decode cX3_makeRecords 65 = .ok (.getfield 54, 3) := by decide +kernel
theorem dX3_makeRecords_68 : decode cX3_makeRecords 68 = .ok (.goto 16, 3) := by decide +kernel
theorem dX3_makeRecords_71 : decode cX3_makeRecords 71 = .ok (.aload 4, 2) := by decide +kernel
theorem dX3_makeRecords_73 : decode cX3_makeRecords 73 = .ok (.getfield 187, 3) := by decide +kernel
theorem dX3_makeRecords_76 : decode cX3_makeRecords 76 = .ok (.aload_n 0, 1) := by decide +kernel
theorem dX3_makeRecords_77 : decode cX3_makeRecords 77 = .ok (.getfield 28, 3) := by decide +kernel
theorem dX3_makeRecords_80 : decode cX3_makeRecords 80 = .ok (.getfield 178, 3) := by decide +kernel
theorem dX3_makeRecords_83 : decode cX3_makeRecords 83 = .ok (.iand, 1) := by decide +kernel
theorem dX3_makeRecords_84 : decode cX3_makeRecords 84 = .ok (.istore 5, 2) := by decide +kernel
theorem dX3_makeRecords_86 : decode cX3_makeRecords 86 = .ok (.aload_n 0, 1) := by decide +kernel
theorem dX3_makeRecords_87 : decode cX3_makeRecords 87 = .ok (.getfield 12, 3) := by decide +kernel
theorem dX3_makeRecords_90 : decode cX3_makeRecords 90 = .ok (.getfield 210, 3) := by decide +kernel
theorem dX3_makeRecords_93 : decode cX3_makeRecords 93 = .ok (.iload_n 2, 1) := by decide +kernel
theorem dX3_makeRecords_94 : decode cX3_makeRecords 94 = .ok (.iload 5, 2) := by decide +kernel
theorem dX3_makeRecords_96 : decode cX3_makeRecords 96 = .ok (.aload_n 0, 1) := by decide +kernel
theorem dX3_makeRecords_97 : decode cX3_makeRecords 97 = .ok (.getfield 12, 3) := by decide +kernel
theorem dX3_makeRecords_100 : decode cX3_makeRecords 100 = .ok (.getfield 62, 3) := by decide +kernel
theorem dX3_makeRecords_103 : decode cX3_makeRecords 103 = .ok (.iand, 1) := by decide +kernel
theorem dX3_makeRecords_104 : decode cX3_makeRecords 104 = .ok (.iastore, 1) := by decide +kernel
theorem dX3_makeRecords_105 : decode cX3_makeRecords 105 = .ok (.iinc 2 1, 3) := by decide +kernel
theorem dX3_makeRecords_108 : decode cX3_makeRecords 108 = .ok (.goto (-106), 3) := by decide +kernel
theorem dX3_makeRecords_111 : decode cX3_makeRecords 111 = .ok (.return_, 1) := by decide +kernel
theorem dX3_act_0 : decode cX3_act 0 = .ok (.aload_n 1, 1) := by decide +kernel
theorem dX3_act_1 : decode cX3_act 1 = .ok (.getfield 222, 3) := by decide +kernel
theorem dX3_act_4 : decode cX3_act 4 = .ok (.tableswitch 76 1 3 #[28, 47, 65], 28) := by decide +kernel
theorem dX3_act_32 : decode cX3_act 32 = .ok (.aload_n 0, 1) := by decide +kernel
theorem dX3_act_33 : decode cX3_act 33 = .ok (.getfield 12, 3) := by decide +kernel
theorem dX3_act_36 : decode cX3_act 36 = .ok (.getfield 165, 3) := by decide +kernel
theorem dX3_act_39 : decode cX3_act 39 = .ok (.aload_n 1, 1) := by decide +kernel
theorem dX3_act_40 : decode cX3_act 40 = .ok (.getfield 227, 3) := by decide +kernel
theorem dX3_act_43 : decode cX3_act 43 = .ok (.aload_n 1, 1) := by decide +kernel
theorem dX3_act_44 : decode cX3_act 44 = .ok (.getfield 230, 3) := by decide +kernel
theorem dX3_act_47 : decode cX3_act 47 = .ok (.iastore, 1) := by decide +kernel
theorem dX3_act_48 : decode cX3_act 48 = .ok (.goto 32, 3) := by decide +kernel
theorem dX3_act_51 : decode cX3_act 51 = .ok (.aload_n 0, 1) := by decide +kernel
theorem dX3_act_52 : decode cX3_act 52 = .ok (.getfield 12, 3) := by decide +kernel
theorem dX3_act_55 : decode cX3_act 55 = .ok (.aload_n 1, 1) := by decide +kernel
theorem dX3_act_56 : decode cX3_act 56 = .ok (.getfield 227, 3) := by decide +kernel
theorem dX3_act_59 : decode cX3_act 59 = .ok (.aload_n 1, 1) := by decide +kernel
theorem dX3_act_60 : decode cX3_act 60 = .ok (.getfield 230, 3) := by decide +kernel
theorem dX3_act_63 : decode cX3_act 63 = .ok (.invokevirtual 231, 3) := by decide +kernel
theorem dX3_act_66 : decode cX3_act 66 = .ok (.goto 14, 3) := by decide +kernel
theorem dX3_act_69 : decode cX3_act 69 = .ok (.aload_n 0, 1) := by decide +kernel
theorem dX3_act_70 : decode cX3_act 70 = .ok (.aload_n 1, 1) := by decide +kernel
theorem dX3_act_71 : decode cX3_act 71 = .ok (.getfield 227, 3) := by decide +kernel
theorem dX3_act_74 : decode cX3_act 74 = .ok (.invokevirtual 235, 3) := by decide +kernel
theorem dX3_act_77 : decode cX3_act 77 = .ok (.goto 3, 3) := by decide +kernel
theorem dX3_act_80 : decode cX3_act 80 = .ok (.return_, 1) := by decide +kernel
theorem dX3_leave_0 : decode cX3_leave 0 = .ok (.aload_n 0, 1) := by decide +kernel
theorem dX3_leave_1 : decode cX3_leave 1 = .ok (.getfield 28, 3) := by decide +kernel
theorem dX3_leave_4 : decode cX3_leave 4 = .ok (.getfield 86, 3) := by decide +kernel
theorem dX3_leave_7 : decode cX3_leave 7 = .ok (.iconst 1, 1) := by decide +kernel
theorem dX3_leave_8 : decode cX3_leave 8 = .ok (.isub, 1) := by decide +kernel
theorem dX3_leave_9 : decode cX3_leave 9 = .ok (.istore_n 2, 1) := by decide +kernel
theorem dX3_leave_10 : decode cX3_leave 10 = .ok (.iload_n 2, 1) := by decide +kernel
theorem dX3_leave_11 : decode cX3_leave 11 = .ok (.ifCond .lt 61, 3) := by decide +kernel
theorem dX3_leave_14 : decode cX3_leave 14 = .ok (.iload_n 1, 1) := by decide +kernel
theorem dX3_leave_15 : decode cX3_leave 15 = .ok (.iload_n 2, 1) := by decide +kernel
theorem dX3_leave_16 : decode cX3_leave 16 = .ok (.invokestatic 89, 3) := by decide +kernel
theorem dX3_leave_19 : decode cX3_leave 19 = .ok (.ifCond .eq 47, 3) := by decide +kernel
theorem dX3_leave_22 : decode cX3_leave 22 = .ok (.aload_n 0, 1) := by decide +kernel
theorem dX3_leave_23 : decode cX3_leave 23 = .ok (.getfield 12, 3) := by decide +kernel
theorem dX3_leave_26 : decode cX3_leave 26 = .ok (.dup, 1) := by decide +kernel
theorem dX3_leave_27 : decode cX3_leave 27 = .ok (.getfield 62, 3) := by decide +kernel
theorem dX3_leave_30 : decode cX3_leave 30 = .ok (.iload_n 2, 1) := by decide +kernel
theorem dX3_leave_31 : decode cX3_leave 31 = .ok (.invokestatic 143, 3) := by decide +kernel
theorem dX3_leave_34 : decode cX3_leave 34 = .ok (.iconst (-1), 1) := by decide +kernel
theorem dX3_leave_35 : decode cX3_leave 35 = .ok (.ixor, 1) := by decide +kernel
theorem dX3_leave_36 : decode cX3_leave 36 = .ok (.iand, 1) := by decide +kernel
theorem dX3_leave_37 : decode cX3_leave 37 = .ok (.putfield 62, 3) := by decide +kernel
theorem dX3_leave_40 : decode cX3_leave 40 = .ok (.aload_n 0, 1) := by decide +kernel
theorem dX3_leave_41 : decode cX3_leave 41 = .ok (.getfield 12, 3) := by decide +kernel
theorem dX3_leave_44 : decode cX3_leave 44 = .ok (.getfield 93, 3) := by decide +kernel
theorem dX3_leave_47 : decode cX3_leave 47 = .ok (.iload_n 2, 1) := by decide +kernel
theorem dX3_leave_48 : decode cX3_leave 48 = .ok (.iconst (-1), 1) := by decide +kernel
theorem dX3_leave_49 : decode cX3_leave 49 = .ok (.iastore, 1) := by decide +kernel
theorem dX3_leave_50 : decode cX3_leave 50 = .ok (.aload_n 0, 1) := by decide +kernel
theorem dX3_leave_51 : decode cX3_leave 51 = .ok (.aload_n 0, 1) := by decide +kernel
theorem dX3_leave_52 : decode cX3_leave 52 = .ok (.getfield 28, 3) := by decide +kernel
theorem dX3_leave_55 : decode cX3_leave 55 = .ok (.getfield 48, 3) := by decide +kernel
theorem dX3_leave_58 : decode cX3_leave 58 = .ok (.iload_n 2, 1) := by decide +kernel
theorem dX3_leave_59 : decode cX3_leave 59 = .ok (.aaload, 1) := by decide +kernel
theorem dX3_leave_60 : decode cX3_leave 60 = .ok (.getfield 213, 3) := by decide +kernel
theorem dX3_leave_63 : decode cX3_leave 63 = .ok (.invokevirtual 126, 3) := by decide +kernel
theorem dX3_leave_66 : decode cX3_leave 66 = .ok (.iinc 2 (-1), 3) := by decide +kernel
theorem dX3_leave_69 : decode cX3_leave 69 = .ok (.goto (-59), 3) := by decide +kernel
theorem dX3_leave_72 : decode cX3_leave 72 = .ok (.return_, 1) := by decide +kernel
theorem dX3_enter_0 : decode cX3_enter 0 = .ok (.iconst 0, 1) := by decide +kernel
theorem dX3_enter_1 : decode cX3_enter 1 = .ok (.istore_n 2, 1) := by decide +kernel
theorem dX3_enter_2 : decode cX3_enter 2 = .ok (.iload_n 2, 1) := by decide +kernel
theorem dX3_enter_3 : decode cX3_enter 3 = .ok (.aload_n 0, 1) := by decide +kernel
theorem dX3_enter_4 : decode cX3_enter 4 = .ok (.getfield 28, 3) := by decide +kernel
theorem dX3_enter_7 : decode cX3_enter 7 = .ok (.getfield 86, 3) := by decide +kernel
theorem dX3_enter_10 : decode cX3_enter 10 = .ok (.if_icmp .ge 59, 3) := by decide +kernel
theorem dX3_enter_13 : decode cX3_enter 13 = .ok (.iload_n 1, 1) := by decide +kernel
theorem dX3_enter_14 : decode cX3_enter 14 = .ok (.iload_n 2, 1) := by decide +kernel
theorem dX3_enter_15 : decode cX3_enter 15 = .ok (.invokestatic 89, 3) := by decide +kernel
theorem dX3_enter_18 : decode cX3_enter 18 = .ok (.ifCond .eq 45, 3) := by decide +kernel
theorem dX3_enter_21 : decode cX3_enter 21 = .ok (.aload_n 0, 1) := by decide +kernel
theorem dX3_enter_22 : decode cX3_enter 22 = .ok (.getfield 12, 3) := by decide +kernel
theorem dX3_enter_25 : decode cX3_enter 25 = .ok (.dup, 1) := by decide +kernel
theorem dX3_enter_26 : decode cX3_enter 26 = .ok (.getfield 62, 3) := by decide +kernel
theorem dX3_enter_29 : decode cX3_enter 29 = .ok (.iload_n 2, 1) := by decide +kernel
theorem dX3_enter_30 : decode cX3_enter 30 = .ok (.invokestatic 143, 3) := by decide +kernel
theorem dX3_enter_33 : decode cX3_enter 33 = .ok (.ior, 1) := by decide +kernel
theorem dX3_enter_34 : decode cX3_enter 34 = .ok (.putfield 62, 3) := by decide +kernel
theorem dX3_enter_37 : decode cX3_enter 37 = .ok (.aload_n 0, 1) := by decide +kernel
theorem dX3_enter_38 : decode cX3_enter 38 = .ok (.getfield 12, 3) := by decide +kernel
theorem dX3_enter_41 : decode cX3_enter 41 = .ok (.getfield 93, 3) := by decide +kernel
theorem dX3_enter_44 : decode cX3_enter 44 = .ok (.iload_n 2, 1) := by decide +kernel
theorem dX3_enter_45 : decode cX3_enter 45 = .ok (.iconst 0, 1) := by decide +kernel
theorem dX3_enter_46 : decode cX3_enter 46 = .ok (.iastore, 1) := by decide +kernel
theorem dX3_enter_47 : decode cX3_enter 47 = .ok (.aload_n 0, 1) := by decide +kernel
theorem dX3_enter_48 : decode cX3_enter 48 = .ok (.aload_n 0, 1) := by decide +kernel
theorem dX3_enter_49 : decode cX3_enter 49 = .ok (.getfield 28, 3) := by decide +kernel
theorem dX3_enter_52 : decode cX3_enter 52 = .ok (.getfield 48, 3) := by decide +kernel
theorem dX3_enter_55 : decode cX3_enter 55 = .ok (.iload_n 2, 1) := by decide +kernel
theorem dX3_enter_56 : decode cX3_enter 56 = .ok (.aaload, 1) := by decide +kernel
theorem dX3_enter_57 : decode cX3_enter 57 = .ok (.getfield 216, 3) := by decide +kernel
theorem dX3_enter_60 : decode cX3_enter 60 = .ok (.invokevirtual 126, 3) := by decide +kernel
theorem dX3_enter_63 : decode cX3_enter 63 = .ok (.iinc 2 1, 3) := by decide +kernel
theorem dX3_enter_66 : decode cX3_enter 66 = .ok (.goto (-64), 3) := by decide +kernel
theorem dX3_enter_69 : decode cX3_enter 69 = .ok (.return_, 1) := by decide +kernel
theorem dX3_targetsOf_0 : decode cX3_targetsOf 0 = .ok (.aload_n 0, 1) := by decide +kernel
theorem dX3_targetsOf_1 : decode cX3_targetsOf 1 = .ok (.getfield 28, 3) := by decide +kernel
theorem dX3_targetsOf_4 : decode cX3_targetsOf 4 = .ok (.getfield 48, 3) := by decide +kernel
theorem dX3_targetsOf_7 : decode cX3_targetsOf 7 = .ok (.aload_n 1, 1) := by decide +kernel
theorem dX3_targetsOf_8 : decode cX3_targetsOf 8 = .ok (.getfield 130, 3) := by decide +kernel
theorem dX3_targetsOf_11 : decode cX3_targetsOf 11 = .ok (.aaload, 1) := by decide +kernel
theorem dX3_targetsOf_12 : decode cX3_targetsOf 12 = .ok (.invokevirtual 201, 3) := by decide +kernel
theorem dX3_targetsOf_15 : decode cX3_targetsOf 15 = .ok (.ifCond .ne 11, 3) := by decide +kernel
theorem dX3_targetsOf_18 : decode cX3_targetsOf 18 = .ok (.aload_n 1, 1) := by decide +kernel
theorem dX3_targetsOf_19 : decode cX3_targetsOf 19 = .ok (.getfield 130, 3) := by decide +kernel
theorem dX3_targetsOf_22 : decode cX3_targetsOf 22 = .ok (.invokestatic 143, 3) := by decide +kernel
theorem dX3_targetsOf_25 : decode cX3_targetsOf 25 = .ok (.ireturn, 1) := by decide +kernel
theorem dX3_targetsOf_26 : decode cX3_targetsOf 26 = .ok (.aload_n 0, 1) := by decide +kernel
theorem dX3_targetsOf_27 : decode cX3_targetsOf 27 = .ok (.getfield 12, 3) := by decide +kernel
theorem dX3_targetsOf_30 : decode cX3_targetsOf 30 = .ok (.getfield 210, 3) := by decide +kernel
theorem dX3_targetsOf_33 : decode cX3_targetsOf 33 = .ok (.aload_n 1, 1) := by decide +kernel
theorem dX3_targetsOf_34 : decode cX3_targetsOf 34 = .ok (.getfield 130, 3) := by decide +kernel
theorem dX3_targetsOf_37 : decode cX3_targetsOf 37 = .ok (.iaload, 1) := by decide +kernel
theorem dX3_targetsOf_38 : decode cX3_targetsOf 38 = .ok (.ifCond .eq 16, 3) := by decide +kernel
theorem dX3_targetsOf_41 : decode cX3_targetsOf 41 = .ok (.aload_n 0, 1) := by decide +kernel
theorem dX3_targetsOf_42 : decode cX3_targetsOf 42 = .ok (.getfield 12, 3) := by decide +kernel
theorem dX3_targetsOf_45 : decode cX3_targetsOf 45 = .ok (.getfield 210, 3) := by decide +kernel
theorem dX3_targetsOf_48 : decode cX3_targetsOf 48 = .ok (.aload_n 1, 1) := by decide +kernel
theorem dX3_targetsOf_49 : decode cX3_targetsOf 49 = .ok (.getfield 130, 3) := by decide +kernel
theorem dX3_targetsOf_52 : decode cX3_targetsOf 52 = .ok (.iaload, 1) := by decide +kernel
theorem dX3_targetsOf_53 : decode cX3_targetsOf 53 = .ok (.ireturn, 1) := by decide +kernel
theorem dX3_targetsOf_54 : decode cX3_targetsOf 54 = .ok (.aload_n 0, 1) := by decide +kernel
theorem dX3_targetsOf_55 : decode cX3_targetsOf 55 = .ok (.getfield 28, 3) := by decide +kernel
theorem dX3_targetsOf_58 : decode cX3_targetsOf 58 = .ok (.getfield 48, 3) := by decide +kernel
theorem dX3_targetsOf_61 : decode cX3_targetsOf 61 = .ok (.aload_n 1, 1) := by decide +kernel
theorem dX3_targetsOf_62 : decode cX3_targetsOf 62 = .ok (.getfield 130, 3) := by decide +kernel
theorem dX3_targetsOf_65 : decode cX3_targetsOf 65 = .ok (.aaload, 1) := by decide +kernel
theorem dX3_targetsOf_66 : decode cX3_targetsOf 66 = .ok (.getfield 204, 3) := by decide +kernel
theorem dX3_targetsOf_69 : decode cX3_targetsOf 69 = .ok (.istore_n 2, 1) := by decide +kernel
theorem dX3_targetsOf_70 : decode cX3_targetsOf 70 = .ok (.iload_n 2, 1) := by decide +kernel
theorem dX3_targetsOf_71 : decode cX3_targetsOf 71 = .ok (.aload_n 1, 1) := by decide +kernel
theorem dX3_targetsOf_72 : decode cX3_targetsOf 72 = .ok (.getfield 136, 3) := by decide +kernel
theorem dX3_targetsOf_75 : decode cX3_targetsOf 75 = .ok (.if_icmp .ne 18, 3) := by decide +kernel
theorem dX3_targetsOf_78 : decode cX3_targetsOf 78 = .ok (.aload_n 0, 1) := by decide +kernel
theorem dX3_targetsOf_79 : decode cX3_targetsOf 79 = .ok (.getfield 28, 3) := by decide +kernel
theorem dX3_targetsOf_82 : decode cX3_targetsOf 82 = .ok (.getfield 48, 3) := by decide +kernel
theorem dX3_targetsOf_85 : decode cX3_targetsOf 85 = .ok (.iload_n 2, 1) := by decide +kernel
theorem dX3_targetsOf_86 : decode cX3_targetsOf 86 = .ok (.aaload, 1) := by decide +kernel
theorem dX3_targetsOf_87 : decode cX3_targetsOf 87 = .ok (.getfield 219, 3) := by decide +kernel
theorem dX3_targetsOf_90 : decode cX3_targetsOf 90 = .ok (.goto 7, 3) := by decide +kernel
theorem dX3_targetsOf_93 : decode cX3_targetsOf 93 = .ok (.iload_n 2, 1) := by decide +kernel
theorem dX3_targetsOf_94 : decode cX3_targetsOf 94 = .ok (.invokestatic 143, 3) := by decide +kernel
theorem dX3_targetsOf_97 : decode cX3_targetsOf 97 = .ok (.ireturn, 1) := by decide +kernel
theorem dX3_step_0 : decode cX3_step 0 = .ok (.aload_n 0, 1) := by decide +kernel
theorem dX3_step_1 : decode cX3_step 1 = .ok (.iload_n 1, 1) := by decide +kernel
theorem dX3_step_2 : decode cX3_step 2 = .ok (.invokevirtual 96, 3) := by decide +kernel
theorem dX3_step_5 : decode cX3_step 5 = .ok (.istore_n 2, 1) := by decide +kernel
theorem dX3_step_6 : decode cX3_step 6 = .ok (.iload_n 2, 1) := by decide +kernel
theorem dX3_step_7 : decode cX3_step 7 = .ok (.ifCond .ne 5, 3) := by decide +kernel
theorem dX3_step_10 : decode cX3_step 10 = .ok (.iconst 0, 1) := by decide +kernel
theorem dX3_step_11 : decode cX3_step 11 = .ok (.ireturn, 1) := by decide +kernel
theorem dX3_step_12 : decode cX3_step 12 = .ok (.aload_n 0, 1) := by decide +kernel
theorem dX3_step_13 : decode cX3_step 13 = .ok (.iload_n 2, 1) := by decide +kernel
theorem dX3_step_14 : decode cX3_step 14 = .ok (.invokevirtual 99, 3) := by decide +kernel
theorem dX3_step_17 : decode cX3_step 17 = .ok (.iconst 0, 1) := by decide +kernel
theorem dX3_step_18 : decode cX3_step 18 = .ok (.istore_n 3, 1) := by decide +kernel
theorem dX3_step_19 : decode cX3_step 19 = .ok (.iconst 0, 1) := by decide +kernel
theorem dX3_step_20 : decode cX3_step 20 = .ok (.istore 4, 2) := by decide +kernel
theorem dX3_step_22 : decode cX3_step 22 = .ok (.iload 4, 2) := by decide +kernel
theorem dX3_step_24 : decode cX3_step 24 = .ok (.aload_n 0, 1) := by decide +kernel
theorem dX3_step_25 : decode cX3_step 25 = .ok (.getfield 103, 3) := by decide +kernel
theorem dX3_step_28 : decode cX3_step 28 = .ok (.if_icmp .ge 31, 3) := by decide +kernel
theorem dX3_step_31 : decode cX3_step 31 = .ok (.iload_n 3, 1) := by decide +kernel
theorem dX3_step_32 : decode cX3_step 32 = .ok (.aload_n 0, 1) := by decide +kernel
theorem dX3_step_33 : decode cX3_step 33 = .ok (.aload_n 0, 1) := by decide +kernel
theorem dX3_step_34 : decode cX3_step 34 = .ok (.getfield 28, 3) := by decide +kernel
theorem dX3_step_37 : decode cX3_step 37 = .ok (.getfield 106, 3) := by decide +kernel
theorem dX3_step_40 : decode cX3_step 40 = .ok (.aload_n 0, 1) := by decide +kernel
theorem dX3_step_41 : decode cX3_step 41 = .ok (.getfield 25, 3) := by decide +kernel
theorem dX3_step_44 : decode cX3_step 44 = .ok (.iload 4, 2) := by decide +kernel
theorem dX3_step_46 : decode cX3_step 46 = .ok (.iaload, 1) := by decide +kernel
theorem dX3_step_47 : decode cX3_step 47 = .ok (.aaload, 1) := by decide +kernel
theorem dX3_step_48 : decode cX3_step 48 = .ok (.invokevirtual 110, 3) := by decide +kernel
theorem dX3_step_51 : decode cX3_step 51 = .ok (.ior, 1) := by decide +kernel
theorem dX3_step_52 : decode cX3_step 52 = .ok (.istore_n 3, 1) := by decide +kernel
theorem dX3_step_53 : decode cX3_step 53 = .ok (.iinc 4 1, 3) := by decide +kernel
theorem dX3_step_56 : decode cX3_step 56 = .ok (.goto (-34), 3) := by decide +kernel
theorem dX3_step_59 : decode cX3_step 59 = .ok (.aload_n 0, 1) := by decide +kernel
theorem dX3_step_60 : decode cX3_step 60 = .ok (.iload_n 3, 1) := by decide +kernel
theorem dX3_step_61 : decode cX3_step 61 = .ok (.invokevirtual 114, 3) := by decide +kernel
theorem dX3_step_64 : decode cX3_step 64 = .ok (.aload_n 0, 1) := by decide +kernel
theorem dX3_step_65 : decode cX3_step 65 = .ok (.iload_n 3, 1) := by decide +kernel
theorem dX3_step_66 : decode cX3_step 66 = .ok (.invokevirtual 117, 3) := by decide +kernel
theorem dX3_step_69 : decode cX3_step 69 = .ok (.iconst 0, 1) := by decide +kernel
theorem dX3_step_70 : decode cX3_step 70 = .ok (.istore 4, 2) := by decide +kernel
theorem dX3_step_72 : decode cX3_step 72 = .ok (.iconst 0, 1) := by decide +kernel
theorem dX3_step_73 : decode cX3_step 73 = .ok (.istore 5, 2) := by decide +kernel
theorem dX3_step_75 : decode cX3_step 75 = .ok (.iload 5, 2) := by decide +kernel
theorem dX3_step_77 : decode cX3_step 77 = .ok (.aload_n 0, 1) := by decide +kernel
theorem dX3_step_78 : decode cX3_step 78 = .ok (.getfield 103, 3) := by decide +kernel
theorem dX3_step_81 : decode cX3_step 81 = .ok (.if_icmp .ge 102, 3) := by decide +kernel
theorem dX3_step_84 : decode cX3_step 84 = .ok (.aload_n 0, 1) := by decide +kernel
theorem dX3_step_85 : decode cX3_step 85 = .ok (.getfield 28, 3) := by decide +kernel
theorem dX3_step_88 : decode cX3_step 88 = .ok (.getfield 106, 3) := by decide +kernel
theorem dX3_step_91 : decode cX3_step 91 = .ok (.aload_n 0, 1) := by decide +kernel
theorem dX3_step_92 : decode cX3_step 92 = .ok (.getfield 25, 3) := by decide +kernel
theorem dX3_step_95 : decode cX3_step 95 = .ok (.iload 5, 2) := by decide +kernel
theorem dX3_step_97 : decode cX3_step 97 = .ok (.iaload, 1) := by decide +kernel
theorem dX3_step_98 : decode cX3_step 98 = .ok (.aaload, 1) := by decide +kernel
theorem dX3_step_99 : decode cX3_step 99 = .ok (.astore 6, 2) := by decide +kernel
theorem dX3_step_101 : decode cX3_step 101 = .ok (.aload_n 0, 1) := by decide +kernel
theorem dX3_step_102 : decode cX3_step 102 = .ok (.aload 6, 2) := by decide +kernel
theorem dX3_step_104 : decode cX3_step 104 = .ok (.getfield 120, 3) := by decide +kernel
theorem dX3_step_107 : decode cX3_step 107 = .ok (.invokevirtual 126, 3) := by decide +kernel
theorem dX3_step_110 : decode cX3_step 110 = .ok (.aload 6, 2) := by decide +kernel
theorem dX3_step_112 : decode cX3_step 112 = .ok (.getfield 130, 3) := by decide +kernel
theorem dX3_step_115 : decode cX3_step 115 = .ok (.iconst (-1), 1) := by decide +kernel
theorem dX3_step_116 : decode cX3_step 116 = .ok (.if_icmp .eq 26, 3) := by decide +kernel
theorem dX3_step_119 : decode cX3_step 119 = .ok (.iload 4, 2) := by decide +kernel
theorem dX3_step_121 : decode cX3_step 121 = .ok (.aload_n 0, 1) := by decide +kernel
theorem dX3_step_122 : decode cX3_step 122 = .ok (.getfield 28, 3) := by decide +kernel
theorem dX3_step_125 : decode cX3_step 125 = .ok (.aload_n 0, 1) := by decide +kernel
theorem dX3_step_126 : decode cX3_step 126 = .ok (.aload 6, 2) := by decide +kernel
theorem dX3_step_128 : decode cX3_step 128 = .ok (.invokevirtual 133, 3) := by decide +kernel
theorem dX3_step_131 : decode cX3_step 131 = .ok (.aload 6, 2) := by decide +kernel
theorem dX3_step_133 : decode cX3_step 133 = .ok (.getfield 136, 3) := by decide +kernel
theorem dX3_step_136 : decode cX3_step 136 = .ok (.invokevirtual 139, 3) := by decide +kernel
theorem dX3_step_139 : decode cX3_step 139 = .ok (.ior, 1) := by decide +kernel
theorem dX3_step_140 : decode cX3_step 140 = .ok (.istore 4, 2) := by decide +kernel
theorem dX3_step_142 : decode cX3_step 142 = .ok (.aload_n 0, 1) := by decide +kernel
theorem dX3_step_143 : decode cX3_step 143 = .ok (.getfield 18, 3) := by decide +kernel
theorem dX3_step_146 : decode cX3_step 146 = .ok (.aload_n 0, 1) := by decide +kernel
theorem dX3_step_147 : decode cX3_step 147 = .ok (.getfield 25, 3) := by decide +kernel
theorem dX3_step_150 : decode cX3_step 150 = .ok (.iload 5, 2) := by decide +kernel
theorem dX3_step_152 : decode cX3_step 152 = .ok (.iaload, 1) := by decide +kernel
theorem dX3_step_153 : decode cX3_step 153 = .ok (.dup2, 1) := by decide +kernel
theorem dX3_step_154 : decode cX3_step 154 = .ok (.iaload, 1) := by decide +kernel
theorem dX3_step_155 : decode cX3_step 155 = .ok (.iconst 1, 1) := by decide +kernel
theorem dX3_step_156 : decode cX3_step 156 = .ok (.iadd, 1) := by decide +kernel
theorem dX3_step_157 : decode cX3_step 157 = .ok (.iastore, 1) := by decide +kernel
theorem dX3_step_158 : decode cX3_step 158 = .ok (.aload_n 0, 1) := by decide +kernel
theorem dX3_step_159 : decode cX3_step 159 = .ok (.dup, 1) := by decide +kernel
theorem dX3_step_160 : decode cX3_step 160 = .ok (.getfield 65, 3) := by decide +kernel
theorem dX3_step_163 : decode cX3_step 163 = .ok (.aload_n 0, 1) := by decide +kernel
theorem dX3_step_164 : decode cX3_step 164 = .ok (.getfield 25, 3) := by decide +kernel
theorem dX3_step_167 : decode cX3_step 167 = .ok (.iload 5, 2) := by decide +kernel
theorem dX3_step_169 : decode cX3_step 169 = .ok (.iaload, 1) := by decide +kernel
theorem dX3_step_170 : decode cX3_step 170 = .ok (.invokestatic 143, 3) := by decide +kernel
theorem dX3_step_173 : decode cX3_step 173 = .ok (.ior, 1) := by decide +kernel
theorem dX3_step_174 : decode cX3_step 174 = .ok (.putfield 65, 3) := by decide +kernel
theorem dX3_step_177 : decode cX3_step 177 = .ok (.iinc 5 1, 3) := by decide +kernel
theorem dX3_step_180 : decode cX3_step 180 = .ok (.goto (-105), 3) := by decide +kernel
theorem dX3_step_183 : decode cX3_step 183 = .ok (.aload_n 0, 1) := by decide +kernel
theorem dX3_step_184 : decode cX3_step 184 = .ok (.iload 4, 2) := by decide +kernel
theorem dX3_step_186 : decode cX3_step 186 = .ok (.invokevirtual 146, 3) := by decide +kernel
theorem dX3_step_189 : decode cX3_step 189 = .ok (.aload_n 0, 1) := by decide +kernel
theorem dX3_step_190 : decode cX3_step 190 = .ok (.getfield 103, 3) := by decide +kernel
theorem dX3_step_193 : decode cX3_step 193 = .ok (.ireturn, 1) := by decide +kernel
theorem dX3_proceed_0 : decode cX3_proceed 0 = .ok (.aload_n 0, 1) := by decide +kernel
theorem dX3_proceed_1 : decode cX3_proceed 1 = .ok (.iconst 0, 1) := by decide +kernel
theorem dX3_proceed_2 : decode cX3_proceed 2 = .ok (.putfield 65, 3) := by decide +kernel
theorem dX3_proceed_5 : decode cX3_proceed 5 = .ok (.aload_n 0, 1) := by decide +kernel
theorem dX3_proceed_6 : decode cX3_proceed 6 = .ok (.invokevirtual 68, 3) := by decide +kernel
theorem dX3_proceed_9 : decode cX3_proceed 9 = .ok (.ifCond .eq 9, 3) := by decide +kernel
theorem dX3_proceed_12 : decode cX3_proceed 12 = .ok (.aload_n 0, 1) := by decide +kernel
theorem dX3_proceed_13 : decode cX3_proceed 13 = .ok (.invokevirtual 72, 3) := by decide +kernel
theorem dX3_proceed_16 : decode cX3_proceed 16 = .ok (.iconst 0, 1) := by decide +kernel
theorem dX3_proceed_17 : decode cX3_proceed 17 = .ok (.ireturn, 1) := by decide +kernel
theorem dX3_proceed_18 : decode cX3_proceed 18 = .ok (.iload_n 1, 1) := by decide +kernel
theorem dX3_proceed_19 : decode cX3_proceed 19 = .ok (.bipush 10, 2) := by decide +kernel
theorem dX3_proceed_21 : decode cX3_proceed 21 = .ok (.if_icmp .ne 7, 3) := by decide +kernel
theorem dX3_proceed_24 : decode cX3_proceed 24 = .ok (.aload_n 0, 1) := by decide +kernel
theorem dX3_proceed_25 : decode cX3_proceed 25 = .ok (.invokevirtual 75, 3) := by decide +kernel
theorem dX3_proceed_28 : decode cX3_proceed 28 = .ok (.iload_n 1, 1) := by decide +kernel
theorem dX3_proceed_29 : decode cX3_proceed 29 = .ok (.istore_n 2, 1) := by decide +kernel
theorem dX3_proceed_30 : decode cX3_proceed 30 = .ok (.iconst 0, 1) := by decide +kernel
theorem dX3_proceed_31 : decode cX3_proceed 31 = .ok (.istore_n 3, 1) := by decide +kernel
theorem dX3_proceed_32 : decode cX3_proceed 32 = .ok (.iconst 0, 1) := by decide +kernel
theorem dX3_proceed_33 : decode cX3_proceed 33 = .ok (.istore 4, 2) := by decide +kernel
theorem dX3_proceed_35 : decode cX3_proceed 35 = .ok (.iconst 0, 1) := by decide +kernel
theorem dX3_proceed_36 : decode cX3_proceed 36 = .ok (.istore 5, 2) := by decide +kernel
theorem dX3_proceed_38 : decode cX3_proceed 38 = .ok (.iload 5, 2) := by decide +kernel
theorem dX3_proceed_40 : decode cX3_proceed 40 = .ok (.sipush 1000, 3) := by decide +kernel
theorem dX3_proceed_43 : decode cX3_proceed 43 = .ok (.if_icmp .ge 106, 3) := by decide +kernel
theorem dX3_proceed_46 : decode cX3_proceed 46 = .ok (.aload_n 0, 1) := by decide +kernel
theorem dX3_proceed_47 : decode cX3_proceed 47 = .ok (.iload_n 2, 1) := by decide +kernel
theorem dX3_proceed_48 : decode cX3_proceed 48 = .ok (.invokevirtual 78, 3) := by decide +kernel
theorem dX3_proceed_51 : decode cX3_proceed 51 = .ok (.istore 6, 2) := by decide +kernel
theorem dX3_proceed_53 : decode cX3_proceed 53 = .ok (.iload_n 3, 1) := by decide +kernel
theorem dX3_proceed_54 : decode cX3_proceed 54 = .ok (.iload 6, 2) := by decide +kernel
theorem dX3_proceed_56 : decode cX3_proceed 56 = .ok (.iadd, 1) := by decide +kernel
theorem dX3_proceed_57 : decode cX3_proceed 57 = .ok (.istore_n 3, 1) := by decide +kernel
theorem dX3_proceed_58 : decode cX3_proceed 58 = .ok (.iload 4, 2) := by decide +kernel
theorem dX3_proceed_60 : decode cX3_proceed 60 = .ok (.iload 6, 2) := by decide +kernel
theorem dX3_proceed_62 : decode cX3_proceed 62 = .ok (.ifCond .le 7, 3) := by decide +kernel
theorem dX3_proceed_65 : decode cX3_proceed 65 = .ok (.iconst 1, 1) := by decide +kernel
theorem dX3_proceed_66 : decode cX3_proceed 66 = .ok (.goto 4, 3) := by decide +kernel
theorem dX3_proceed_69 : decode cX3_proceed 69 = .ok (.iconst 0, 1) := by decide +kernel
theorem dX3_proceed_70 : decode cX3_proceed 70 = .ok (.iadd, 1) := by decide +kernel
theorem dX3_proceed_71 : decode cX3_proceed 71 = .ok (.istore 4, 2) := by decide +kernel
theorem dX3_proceed_73 : decode cX3_proceed 73 = .ok (.aload_n 0, 1) := by decide +kernel
theorem dX3_proceed_74 : decode cX3_proceed 74 = .ok (.invokevirtual 68, 3) := by decide +kernel
theorem dX3_proceed_77 : decode cX3_proceed 77 = .ok (.ifCond .eq 9, 3) := by decide +kernel
theorem dX3_proceed_80 : decode cX3_proceed 80 = .ok (.aload_n 0, 1) := by decide +kernel
theorem dX3_proceed_81 : decode cX3_proceed 81 = .ok (.invokevirtual 72, 3) := by decide +kernel
theorem dX3_proceed_84 : decode cX3_proceed 84 = .ok (.iload_n 3, 1) := by decide +kernel
theorem dX3_proceed_85 : decode cX3_proceed 85 = .ok (.ireturn, 1) := by decide +kernel
theorem dX3_proceed_86 : decode cX3_proceed 86 = .ok (.iload 4, 2) := by decide +kernel
theorem dX3_proceed_88 : decode cX3_proceed 88 = .ok (.bipush 12, 2) := by decide +kernel
theorem dX3_proceed_90 : decode cX3_proceed 90 = .ok (.if_icmp .ne 19, 3) := by decide +kernel
theorem dX3_proceed_93 : decode cX3_proceed 93 = .ok (.aload_n 0, 1) := by decide +kernel
theorem dX3_proceed_94 : decode cX3_proceed 94 = .ok (.invokevirtual 72, 3) := by decide +kernel
theorem dX3_proceed_97 : decode cX3_proceed 97 = .ok (.aload_n 0, 1) := by decide +kernel
theorem dX3_proceed_98 : decode cX3_proceed 98 = .ok (.dup, 1) := by decide +kernel
theorem dX3_proceed_99 : decode cX3_proceed 99 = .ok (.getfield 42, 3) := by decide +kernel
theorem dX3_proceed_102 : decode cX3_proceed 102 = .ok (.iconst 1, 1) := by decide +kernel
theorem dX3_proceed_103 : decode cX3_proceed 103 = .ok (.iadd, 1) := by decide +kernel
theorem dX3_proceed_104 : decode cX3_proceed 104 = .ok (.putfield 42, 3) := by decide +kernel
theorem dX3_proceed_107 : decode cX3_proceed 107 = .ok (.iload_n 3, 1) := by decide +kernel
theorem dX3_proceed_108 : decode cX3_proceed 108 = .ok (.ireturn, 1) := by decide +kernel
theorem dX3_proceed_109 : decode cX3_proceed 109 = .ok (.iload 6, 2) := by decide +kernel
theorem dX3_proceed_111 : decode cX3_proceed 111 = .ok (.ifCond .gt 9, 3) := by decide +kernel
theorem dX3_proceed_114 : decode cX3_proceed 114 = .ok (.iload_n 2, 1) := by decide +kernel
theorem dX3_proceed_115 : decode cX3_proceed 115 = .ok (.bipush 11, 2) := by decide +kernel
theorem dX3_proceed_117 : decode cX3_proceed 117 = .ok (.if_icmp .eq 9, 3) := by decide +kernel
theorem dX3_proceed_120 : decode cX3_proceed 120 = .ok (.bipush 11, 2) := by decide +kernel
theorem dX3_proceed_122 : decode cX3_proceed 122 = .ok (.istore_n 2, 1) := by decide +kernel
theorem dX3_proceed_123 : decode cX3_proceed 123 = .ok (.goto 20, 3) := by decide +kernel
theorem dX3_proceed_126 : decode cX3_proceed 126 = .ok (.aload_n 0, 1) := by decide +kernel
theorem dX3_proceed_127 : decode cX3_proceed 127 = .ok (.getfield 45, 3) := by decide +kernel
theorem dX3_proceed_130 : decode cX3_proceed 130 = .ok (.ifCond .le 11, 3) := by decide +kernel
theorem dX3_proceed_133 : decode cX3_proceed 133 = .ok (.aload_n 0, 1) := by decide +kernel
theorem dX3_proceed_134 : decode cX3_proceed 134 = .ok (.invokevirtual 82, 3) := by decide +kernel
theorem dX3_proceed_137 : decode cX3_proceed 137 = .ok (.istore_n 2, 1) := by decide +kernel
theorem dX3_proceed_138 : decode cX3_proceed 138 = .ok (.goto 5, 3) := by decide +kernel
theorem dX3_proceed_141 : decode cX3_proceed 141 = .ok (.iload_n 3, 1) := by decide +kernel
theorem dX3_proceed_142 : decode cX3_proceed 142 = .ok (.ireturn, 1) := by decide +kernel
theorem dX3_proceed_143 : decode cX3_proceed 143 = .ok (.iinc 5 1, 3) := by decide +kernel
theorem dX3_proceed_146 : decode cX3_proceed 146 = .ok (.goto (-108), 3) := by decide +kernel
theorem dX3_proceed_149 : decode cX3_proceed 149 = .ok (.iload_n 3, 1) := by decide +kernel
theorem dX3_proceed_150 : decode cX3_proceed 150 = .ok (.ireturn, 1) := by decide +kernel
theorem dX2_isReached_0 : decode cX2_isReached 0 = .ok (.iload_n 2, 1) := by decide +kernel
theorem dX2_isReached_1 : decode cX2_isReached 1 = .ok (.iconst (-1), 1) := by decide +kernel
theorem dX2_isReached_2 : decode cX2_isReached 2 = .ok (.if_icmp .ne 20, 3) := by decide +kernel
theorem dX2_isReached_5 : decode cX2_isReached 5 = .ok (.aload_n 0, 1) := by decide +kernel
theorem dX2_isReached_6 : decode cX2_isReached 6 = .ok (.getfield 30, 3) := by decide +kernel
theorem dX2_isReached_9 : decode cX2_isReached 9 = .ok (.getfield 56, 3) := by decide +kernel
theorem dX2_isReached_12 : decode cX2_isReached 12 = .ok (.getfield 42, 3) := by decide +kernel
theorem dX2_isReached_15 : decode cX2_isReached 15 = .ok (.iload_n 1, 1) := by decide +kernel
theorem dX2_isReached_16 : decode cX2_isReached 16 = .ok (.invokestatic 45, 3) := by decide +kernel
theorem dX2_isReached_19 : decode cX2_isReached 19 = .ok (.goto 14, 3) := by decide +kernel
theorem dX2_isReached_22 : decode cX2_isReached 22 = .ok (.aload_n 0, 1) := by decide +kernel
theorem dX2_isReached_23 : decode cX2_isReached 23 = .ok (.getfield 30, 3) := by decide +kernel
theorem dX2_isReached_26 : decode cX2_isReached 26 = .ok (.getfield 76, 3) := by decide +kernel
theorem dX2_isReached_29 : decode cX2_isReached 29 = .ok (.iload_n 2, 1) := by decide +kernel
theorem dX2_isReached_30 : decode cX2_isReached 30 = .ok (.invokestatic 45, 3) := by decide +kernel
theorem dX2_isReached_33 : decode cX2_isReached 33 = .ok (.ireturn, 1) := by decide +kernel
theorem dX2_writeRow_0 : decode cX2_writeRow 0 = .ok (.aload_n 0, 1) := by decide +kernel
theorem dX2_writeRow_1 : decode cX2_writeRow 1 = .ok (.aload_n 0, 1) := by decide +kernel
theorem dX2_writeRow_2 : decode cX2_writeRow 2 = .ok (.getfield 27, 3) := by decide +kernel
theorem dX2_writeRow_5 : decode cX2_writeRow 5 = .ok (.iload_n 1, 1) := by decide +kernel
theorem dX2_writeRow_6 : decode cX2_writeRow 6 = .ok (.iaload, 1) := by decide +kernel
theorem dX2_writeRow_7 : decode cX2_writeRow 7 = .ok (.iconst 1, 1) := by decide +kernel
theorem dX2_writeRow_8 : decode cX2_writeRow 8 = .ok (.iadd, 1) := by decide +kernel
theorem dX2_writeRow_9 : decode cX2_writeRow 9 = .ok (.putfield 35, 3) := by decide +kernel
theorem dX2_writeRow_12 : decode cX2_writeRow 12 = .ok (.aload_n 0, 1) := by decide +kernel
theorem dX2_writeRow_13 : decode cX2_writeRow 13 = .ok (.getfield 9, 3) := by decide +kernel
theorem dX2_writeRow_16 : decode cX2_writeRow 16 = .ok (.aload_n 0, 1) := by decide +kernel
theorem dX2_writeRow_17 : decode cX2_writeRow 17 = .ok (.getfield 35, 3) := by decide +kernel
theorem dX2_writeRow_20 : decode cX2_writeRow 20 = .ok (.iconst 1, 1) := by decide +kernel
theorem dX2_writeRow_21 : decode cX2_writeRow 21 = .ok (.isub, 1) := by decide +kernel
theorem dX2_writeRow_22 : decode cX2_writeRow 22 = .ok (.iload_n 2, 1) := by decide +kernel
theorem dX2_writeRow_23 : decode cX2_writeRow 23 = .ok (.iastore, 1) := by decide +kernel
theorem dX2_writeRow_24 : decode cX2_writeRow 24 = .ok (.iload_n 1, 1) := by decide +kernel
theorem dX2_writeRow_25 : decode cX2_writeRow 25 = .ok (.istore_n 3, 1) := by decide +kernel
theorem dX2_writeRow_26 : decode cX2_writeRow 26 = .ok (.aload_n 0, 1) := by decide +kernel
theorem dX2_writeRow_27 : decode cX2_writeRow 27 = .ok (.getfield 35, 3) := by decide +kernel
theorem dX2_writeRow_30 : decode cX2_writeRow 30 = .ok (.iconst 2, 1) := by decide +kernel
theorem dX2_writeRow_31 : decode cX2_writeRow 31 = .ok (.isub, 1) := by decide +kernel
theorem dX2_writeRow_32 : decode cX2_writeRow 32 = .ok (.istore 4, 2) := by decide +kernel
theorem dX2_writeRow_34 : decode cX2_writeRow 34 = .ok (.iload 4, 2) := by decide +kernel
theorem dX2_writeRow_36 : decode cX2_writeRow 36 = .ok (.ifCond .lt 29, 3) := by decide +kernel
theorem dX2_writeRow_39 : decode cX2_writeRow 39 = .ok (.aload_n 0, 1) := by decide +kernel
theorem dX2_writeRow_40 : decode cX2_writeRow 40 = .ok (.getfield 9, 3) := by decide +kernel
theorem dX2_writeRow_43 : decode cX2_writeRow 43 = .ok (.iload 4, 2) := by decide +kernel
theorem dX2_writeRow_45 : decode cX2_writeRow 45 = .ok (.aload_n 0, 1) := by decide +kernel
theorem dX2_writeRow_46 : decode cX2_writeRow 46 = .ok (.getfield 24, 3) := by decide +kernel
theorem dX2_writeRow_49 : decode cX2_writeRow 49 = .ok (.iload_n 3, 1) := by decide +kernel
theorem dX2_writeRow_50 : decode cX2_writeRow 50 = .ok (.iaload, 1) := by decide +kernel
theorem dX2_writeRow_51 : decode cX2_writeRow 51 = .ok (.iastore, 1) := by decide +kernel
theorem dX2_writeRow_52 : decode cX2_writeRow 52 = .ok (.aload_n 0, 1) := by decide +kernel
theorem dX2_writeRow_53 : decode cX2_writeRow 53 = .ok (.getfield 21, 3) := by decide +kernel
theorem dX2_writeRow_56 : decode cX2_writeRow 56 = .ok (.iload_n 3, 1) := by decide +kernel
theorem dX2_writeRow_57 : decode cX2_writeRow 57 = .ok (.iaload, 1) := by decide +kernel
theorem dX2_writeRow_58 : decode cX2_writeRow 58 = .ok (.istore_n 3, 1) := by decide +kernel
theorem dX2_writeRow_59 : decode cX2_writeRow 59 = .ok (.iinc 4 (-1), 3) := by decide +kernel
theorem dX2_writeRow_62 : decode cX2_writeRow 62 = .ok (.goto (-28), 3) := by decide +kernel
theorem dX2_writeRow_65 : decode cX2_writeRow 65 = .ok (.return_, 1) := by decide +kernel
theorem dX2_keepIfNew_0 : decode cX2_keepIfNew 0 = .ok (.aload_n 0, 1) := by decide +kernel
theorem dX2_keepIfNew_1 : decode cX2_keepIfNew 1 = .ok (.getfield 53, 3) := by decide +kernel
theorem dX2_keepIfNew_4 : decode cX2_keepIfNew 4 = .ok (.aload_n 0, 1) := by decide +kernel
theorem dX2_keepIfNew_5 : decode cX2_keepIfNew 5 = .ok (.getfield 17, 3) := by decide +kernel
theorem dX2_keepIfNew_8 : decode cX2_keepIfNew 8 = .ok (.arraylength, 1) := by decide +kernel
theorem dX2_keepIfNew_9 : decode cX2_keepIfNew 9 = .ok (.if_icmp .lt 4, 3) := by decide +kernel
theorem dX2_keepIfNew_12 : decode cX2_keepIfNew 12 = .ok (.return_, 1) := by decide +kernel
theorem dX2_keepIfNew_13 : decode cX2_keepIfNew 13 = .ok (.iconst 0, 1) := by decide +kernel
theorem dX2_keepIfNew_14 : decode cX2_keepIfNew 14 = .ok (.istore_n 3, 1) := by decide +kernel
theorem dX2_keepIfNew_15 : decode cX2_keepIfNew 15 = .ok (.iload_n 3, 1) := by decide +kernel
theorem dX2_keepIfNew_16 : decode cX2_keepIfNew 16 = .ok (.aload_n 0, 1) := by decide +kernel
theorem dX2_keepIfNew_17 : decode cX2_keepIfNew 17 = .ok (.getfield 53, 3) := by decide +kernel
theorem dX2_keepIfNew_20 : decode cX2_keepIfNew 20 = .ok (.if_icmp .ge 29, 3) := by decide +kernel
theorem dX2_keepIfNew_23 : decode cX2_keepIfNew 23 = .ok (.aload_n 0, 1) := by decide +kernel
theorem dX2_keepIfNew_24 : decode cX2_keepIfNew 24 = .ok (.getfield 17, 3) := by decide +kernel
theorem dX2_keepIfNew_27 : decode cX2_keepIfNew 27 = .ok (.iload_n 3, 1) := by decide +kernel
theorem dX2_keepIfNew_28 : decode cX2_keepIfNew 28 = .ok (.aaload, 1) := by decide +kernel
theorem dX2_keepIfNew_29 : decode cX2_keepIfNew 29 = .ok (.aload_n 0, 1) := by decide +kernel
theorem dX2_keepIfNew_30 : decode cX2_keepIfNew 30 = .ok (.getfield 30, 3) := by decide +kernel
theorem dX2_keepIfNew_33 : decode cX2_keepIfNew 33 = .ok (.getfield 56, 3) := by decide +kernel
theorem dX2_keepIfNew_36 : decode cX2_keepIfNew 36 = .ok (.invokevirtual 79, 3) := by decide +kernel
theorem dX2_keepIfNew_39 : decode cX2_keepIfNew 39 = .ok (.ifCond .eq 4, 3) := by decide +kernel
theorem dX2_keepIfNew_42 : decode cX2_keepIfNew 42 = .ok (.return_, 1) := by decide +kernel
theorem dX2_keepIfNew_43 : decode cX2_keepIfNew 43 = .ok (.iinc 3 1, 3) := by decide +kernel
theorem dX2_keepIfNew_46 : decode cX2_keepIfNew 46 = .ok (.goto (-31), 3) := by decide +kernel
theorem dX2_keepIfNew_49 : decode cX2_keepIfNew 49 = .ok (.aload_n 0, 1) := by decide +kernel
theorem dX2_keepIfNew_50 : decode cX2_keepIfNew 50 = .ok (.getfield 17, 3) := by decide +kernel
theorem dX2_keepIfNew_53 : decode cX2_keepIfNew 53 = .ok (.aload_n 0, 1) := by decide +kernel
theorem dX2_keepIfNew_54 : decode cX2_keepIfNew 54 = .ok (.getfield 53, 3) := by decide +kernel
theorem dX2_keepIfNew_57 : decode cX2_keepIfNew 57 = .ok (.aaload, 1) := by decide +kernel
theorem dX2_keepIfNew_58 : decode cX2_keepIfNew 58 = .ok (.aload_n 0, 1) := by decide +kernel
theorem dX2_keepIfNew_59 : decode cX2_keepIfNew 59 = .ok (.getfield 30, 3) := by decide +kernel
theorem dX2_keepIfNew_62 : decode cX2_keepIfNew 62 = .ok (.getfield 56, 3) := by decide +kernel
theorem dX2_keepIfNew_65 : decode cX2_keepIfNew 65 = .ok (.invokevirtual 49, 3) := by decide +kernel
theorem dX2_keepIfNew_68 : decode cX2_keepIfNew 68 = .ok (.aload_n 0, 1) := by decide +kernel
theorem dX2_keepIfNew_69 : decode cX2_keepIfNew 69 = .ok (.getfield 21, 3) := by decide +kernel
theorem dX2_keepIfNew_72 : decode cX2_keepIfNew 72 = .ok (.aload_n 0, 1) := by decide +kernel
theorem dX2_keepIfNew_73 : decode cX2_keepIfNew 73 = .ok (.getfield 53, 3) := by decide +kernel
theorem dX2_keepIfNew_76 : decode cX2_keepIfNew 76 = .ok (.iload_n 1, 1) := by decide +kernel
theorem dX2_keepIfNew_77 : decode cX2_keepIfNew 77 = .ok (.iastore, 1) := by decide +kernel
theorem dX2_keepIfNew_78 : decode cX2_keepIfNew 78 = .ok (.aload_n 0, 1) := by decide +kernel
theorem dX2_keepIfNew_79 : decode cX2_keepIfNew 79 = .ok (.getfield 24, 3) := by decide +kernel
theorem dX2_keepIfNew_82 : decode cX2_keepIfNew 82 = .ok (.aload_n 0, 1) := by decide +kernel
theorem dX2_keepIfNew_83 : decode cX2_keepIfNew 83 = .ok (.getfield 53, 3) := by decide +kernel
theorem dX2_keepIfNew_86 : decode cX2_keepIfNew 86 = .ok (.iload_n 2, 1) := by decide +kernel
theorem dX2_keepIfNew_87 : decode cX2_keepIfNew 87 = .ok (.iastore, 1) := by decide +kernel
theorem dX2_keepIfNew_88 : decode cX2_keepIfNew 88 = .ok (.aload_n 0, 1) := by decide +kernel
theorem dX2_keepIfNew_89 : decode cX2_keepIfNew 89 = .ok (.getfield 27, 3) := by decide +kernel
theorem dX2_keepIfNew_92 : decode cX2_keepIfNew 92 = .ok (.aload_n 0, 1) := by decide +kernel
theorem dX2_keepIfNew_93 : decode cX2_keepIfNew 93 = .ok (.getfield 53, 3) := by decide +kernel
theorem dX2_keepIfNew_96 : decode cX2_keepIfNew 96 = .ok (.aload_n 0, 1) := by decide +kernel
theorem dX2_keepIfNew_97 : decode cX2_keepIfNew 97 = .ok (.getfield 27, 3) := by decide +kernel
theorem dX2_keepIfNew_100 : decode cX2_keepIfNew 100 = .ok (.iload_n 1, 1) := by decide +kernel
theorem dX2_keepIfNew_101 : decode cX2_keepIfNew 101 = .ok (.iaload, 1) := by decide +kernel
theorem dX2_keepIfNew_102 : decode cX2_keepIfNew 102 = .ok (.iconst 1, 1) := by decide +kernel
theorem dX2_keepIfNew_103 : decode cX2_keepIfNew 103 = .ok (.iadd, 1) := by decide +kernel
theorem dX2_keepIfNew_104 : decode cX2_keepIfNew 104 = .ok (.iastore, 1) := by decide +kernel
theorem dX2_keepIfNew_105 : decode cX2_keepIfNew 105 = .ok (.aload_n 0, 1) := by decide +kernel
theorem dX2_keepIfNew_106 : decode cX2_keepIfNew 106 = .ok (.dup, 1) := by decide +kernel
theorem dX2_keepIfNew_107 : decode cX2_keepIfNew 107 = .ok (.getfield 53, 3) := by decide +kernel
theorem dX2_keepIfNew_110 : decode cX2_keepIfNew 110 = .ok (.iconst 1, 1) := by decide +kernel
theorem dX2_keepIfNew_111 : decode cX2_keepIfNew 111 = .ok (.iadd, 1) := by decide +kernel
theorem dX2_keepIfNew_112 : decode cX2_keepIfNew 112 = .ok (.putfield 53, 3) := by decide +kernel
theorem dX2_keepIfNew_115 : decode cX2_keepIfNew 115 = .ok (.return_, 1) := by decide +kernel
theorem dX2_search_0 : decode cX2_search 0 = .ok (.aload_n 0, 1) := by decide +kernel
theorem dX2_search_1 : decode cX2_search 1 = .ok (.iconst 0, 1) := by decide +kernel
theorem dX2_search_2 : decode cX2_search 2 = .ok (.putfield 35, 3) := by decide +kernel
theorem dX2_search_5 : decode cX2_search 5 = .ok (.aload_n 0, 1) := by decide +kernel
theorem dX2_search_6 : decode cX2_search 6 = .ok (.iconst 0, 1) := by decide +kernel
theorem dX2_search_7 : decode cX2_search 7 = .ok (.putfield 39, 3) := by decide +kernel
theorem dX2_search_10 : decode cX2_search 10 = .ok (.iload_n 2, 1) := by decide +kernel
theorem dX2_search_11 : decode cX2_search 11 = .ok (.iconst (-1), 1) := by decide +kernel
theorem dX2_search_12 : decode cX2_search 12 = .ok (.if_icmp .eq 16, 3) := by decide +kernel
theorem dX2_search_15 : decode cX2_search 15 = .ok (.aload_n 1, 1) := by decide +kernel
theorem dX2_search_16 : decode cX2_search 16 = .ok (.getfield 42, 3) := by decide +kernel
theorem dX2_search_19 : decode cX2_search 19 = .ok (.iload_n 2, 1) := by decide +kernel
theorem dX2_search_20 : decode cX2_search 20 = .ok (.invokestatic 45, 3) := by decide +kernel
theorem dX2_search_23 : decode cX2_search 23 = .ok (.ifCond .eq 5, 3) := by decide +kernel
theorem dX2_search_26 : decode cX2_search 26 = .ok (.iconst 0, 1) := by decide +kernel
theorem dX2_search_27 : decode cX2_search 27 = .ok (.ireturn, 1) := by decide +kernel
theorem dX2_search_28 : decode cX2_search 28 = .ok (.aload_n 0, 1) := by decide +kernel
theorem dX2_search_29 : decode cX2_search 29 = .ok (.getfield 17, 3) := by decide +kernel
theorem dX2_search_32 : decode cX2_search 32 = .ok (.iconst 0, 1) := by decide +kernel
theorem dX2_search_33 : decode cX2_search 33 = .ok (.aaload, 1) := by decide +kernel
theorem dX2_search_34 : decode cX2_search 34 = .ok (.aload_n 1, 1) := by decide +kernel
theorem dX2_search_35 : decode cX2_search 35 = .ok (.invokevirtual 49, 3) := by decide +kernel
theorem dX2_search_38 : decode cX2_search 38 = .ok (.aload_n 0, 1) := by decide +kernel
theorem dX2_search_39 : decode cX2_search 39 = .ok (.getfield 21, 3) := by decide +kernel
theorem dX2_search_42 : decode cX2_search 42 = .ok (.iconst 0, 1) := by decide +kernel
theorem dX2_search_43 : decode cX2_search 43 = .ok (.iconst (-1), 1) := by decide +kernel
theorem dX2_search_44 : decode cX2_search 44 = .ok (.iastore, 1) := by decide +kernel
theorem dX2_search_45 : decode cX2_search 45 = .ok (.aload_n 0, 1) := by decide +kernel
theorem dX2_search_46 : decode cX2_search 46 = .ok (.getfield 27, 3) := by decide +kernel
theorem dX2_search_49 : decode cX2_search 49 = .ok (.iconst 0, 1) := by decide +kernel
theorem dX2_search_50 : decode cX2_search 50 = .ok (.iconst 0, 1) := by decide +kernel
theorem dX2_search_51 : decode cX2_search 51 = .ok (.iastore, 1) := by decide +kernel
theorem dX2_search_52 : decode cX2_search 52 = .ok (.aload_n 0, 1) := by decide +kernel
theorem dX2_search_53 : decode cX2_search 53 = .ok (.iconst 1, 1) := by decide +kernel
theorem dX2_search_54 : decode cX2_search 54 = .ok (.putfield 53, 3) := by decide +kernel
theorem dX2_search_57 : decode cX2_search 57 = .ok (.iconst 0, 1) := by decide +kernel
theorem dX2_search_58 : decode cX2_search 58 = .ok (.istore 5, 2) := by decide +kernel
theorem dX2_search_60 : decode cX2_search 60 = .ok (.iload 5, 2) := by decide +kernel
theorem dX2_search_62 : decode cX2_search 62 = .ok (.aload_n 0, 1) := by decide +kernel
theorem dX2_search_63 : decode cX2_search 63 = .ok (.getfield 53, 3) := by decide +kernel
theorem dX2_search_66 : decode cX2_search 66 = .ok (.if_icmp .ge 113, 3) := by decide +kernel
theorem dX2_search_69 : decode cX2_search 69 = .ok (.iload 5, 2) := by decide +kernel
theorem dX2_search_71 : decode cX2_search 71 = .ok (.bipush 60, 2) := by decide +kernel
theorem dX2_search_73 : decode cX2_search 73 = .ok (.if_icmp .ge 106, 3) := by decide +kernel
theorem dX2_search_76 : decode cX2_search 76 = .ok (.aload_n 0, 1) := by decide +kernel
theorem dX2_search_77 : decode cX2_search 77 = .ok (.getfield 27, 3) := by decide +kernel
theorem dX2_search_80 : decode cX2_search 80 = .ok (.iload 5, 2) := by decide +kernel
theorem dX2_search_82 : decode cX2_search 82 = .ok (.iaload, 1) := by decide +kernel
theorem dX2_search_83 : decode cX2_search 83 = .ok (.iload 4, 2) := by decide +kernel
theorem dX2_search_85 : decode cX2_search 85 = .ok (.if_icmp .lt 5, 3) := by decide +kernel
theorem dX2_search_88 : decode cX2_search 88 = .ok (.iconst (-1), 1) := by decide +kernel
theorem dX2_search_89 : decode cX2_search 89 = .ok (.ireturn, 1) := by decide +kernel
theorem dX2_search_90 : decode cX2_search 90 = .ok (.aload_n 0, 1) := by decide +kernel
theorem dX2_search_91 : decode cX2_search 91 = .ok (.dup, 1) := by decide +kernel
theorem dX2_search_92 : decode cX2_search 92 = .ok (.getfield 39, 3) := by decide +kernel
theorem dX2_search_95 : decode cX2_search 95 = .ok (.iconst 1, 1) := by decide +kernel
theorem dX2_search_96 : decode cX2_search 96 = .ok (.iadd, 1) := by decide +kernel
theorem dX2_search_97 : decode cX2_search 97 = .ok (.putfield 39, 3) := by decide +kernel
theorem dX2_search_100 : decode cX2_search 100 = .ok (.iconst 0, 1) := by decide +kernel
theorem dX2_search_101 : decode cX2_search 101 = .ok (.istore 6, 2) := by decide +kernel
theorem dX2_search_103 : decode cX2_search 103 = .ok (.iload 6, 2) := by decide +kernel
theorem dX2_search_105 : decode cX2_search 105 = .ok (.bipush 10, 2) := by decide +kernel
theorem dX2_search_107 : decode cX2_search 107 = .ok (.if_icmp .gt 66, 3) := by decide +kernel
theorem dX2_search_110 : decode cX2_search 110 = .ok (.aload_n 0, 1) := by decide +kernel
theorem dX2_search_111 : decode cX2_search 111 = .ok (.getfield 30, 3) := by decide +kernel
theorem dX2_search_114 : decode cX2_search 114 = .ok (.getfield 56, 3) := by decide +kernel
theorem dX2_search_117 : decode cX2_search 117 = .ok (.aload_n 0, 1) := by decide +kernel
theorem dX2_search_118 : decode cX2_search 118 = .ok (.getfield 17, 3) := by decide +kernel
theorem dX2_search_121 : decode cX2_search 121 = .ok (.iload 5, 2) := by decide +kernel
theorem dX2_search_123 : decode cX2_search 123 = .ok (.aaload, 1) := by decide +kernel
theorem dX2_search_124 : decode cX2_search 124 = .ok (.invokevirtual 49, 3) := by decide +kernel
theorem dX2_search_127 : decode cX2_search 127 = .ok (.aload_n 0, 1) := by decide +kernel
theorem dX2_search_128 : decode cX2_search 128 = .ok (.getfield 30, 3) := by decide +kernel
theorem dX2_search_131 : decode cX2_search 131 = .ok (.iload 6, 2) := by decide +kernel
theorem dX2_search_133 : decode cX2_search 133 = .ok (.invokevirtual 62, 3) := by decide +kernel
theorem dX2_search_136 : decode cX2_search 136 = .ok (.pop, 1) := by decide +kernel
theorem dX2_search_137 : decode cX2_search 137 = .ok (.aload_n 0, 1) := by decide +kernel
theorem dX2_search_138 : decode cX2_search 138 = .ok (.iload_n 2, 1) := by decide +kernel
theorem dX2_search_139 : decode cX2_search 139 = .ok (.iload_n 3, 1) := by decide +kernel
theorem dX2_search_140 : decode cX2_search 140 = .ok (.invokevirtual 66, 3) := by decide +kernel
theorem dX2_search_143 : decode cX2_search 143 = .ok (.ifCond .eq 16, 3) := by decide +kernel
theorem dX2_search_146 : decode cX2_search 146 = .ok (.aload_n 0, 1) := by decide +kernel
theorem dX2_search_147 : decode cX2_search 147 = .ok (.iload 5, 2) := by decide +kernel
theorem dX2_search_149 : decode cX2_search 149 = .ok (.iload 6, 2) := by decide +kernel
theorem dX2_search_151 : decode cX2_search 151 = .ok (.invokevirtual 69, 3) := by decide +kernel
theorem dX2_search_154 : decode cX2_search 154 = .ok (.aload_n 0, 1) := by decide +kernel
theorem dX2_search_155 : decode cX2_search 155 = .ok (.getfield 35, 3) := by decide +kernel
theorem dX2_search_158 : decode cX2_search 158 = .ok (.ireturn, 1) := by decide +kernel
theorem dX2_search_159 : decode cX2_search 159 = .ok (.aload_n 0, 1) := by decide +kernel
theorem dX2_search_160 : decode cX2_search 160 = .ok (.iload 5, 2) := by decide +kernel
theorem dX2_search_162 : decode cX2_search 162 = .ok (.iload 6, 2) := by decide +kernel
theorem dX2_search_164 : decode cX2_search 164 = .ok (.invokevirtual 73, 3) := by decide +kernel
theorem dX2_search_167 : decode cX2_search 167 = .ok (.iinc 6 1, 3) := by decide +kernel
theorem dX2_search_170 : decode cX2_search 170 = .ok (.goto (-67), 3) := by decide +kernel
theorem dX2_search_173 : decode cX2_search 173 = .ok (.iinc 5 1, 3) := by decide +kernel
theorem dX2_search_176 : decode cX2_search 176 = .ok (.goto (-116), 3) := by decide +kernel
theorem dX2_search_179 : decode cX2_search 179 = .ok (.iconst (-1), 1) := by decide +kernel
theorem dX2_search_180 : decode cX2_search 180 = .ok (.ireturn, 1) := by decide +kernel
theorem dX7_checkResting_0 : decode cX7_checkResting 0 = .ok (.aload_n 0, 1) := by decide +kernel
theorem dX7_checkResting_1 : decode cX7_checkResting 1 = .ok (.getfield 37, 3) := by decide +kernel
theorem dX7_checkResting_4 : decode cX7_checkResting 4 = .ok (.ifCond .eq 11, 3) := by decide +kernel
theorem dX7_checkResting_7 : decode cX7_checkResting 7 = .ok (.new 45, 3) := by decide +kernel
theorem dX7_checkResting_10 : decode cX7_checkResting 10 = .ok (.dup, 1) := by decide +kernel
theorem dX7_checkResting_11 : decode cX7_checkResting 11 = .ok (.invokespecial 47, 3) := by decide +kernel
theorem dX7_checkResting_14 : decode cX7_checkResting 14 = .ok (.athrow, 1) := by decide +kernel
theorem dX7_checkResting_15 : decode cX7_checkResting 15 = .ok (.return_, 1) := by decide +kernel
theorem dX7_checkRunning_0 : decode cX7_checkRunning 0 = .ok (.aload_n 0, 1) := by decide +kernel
theorem dX7_checkRunning_1 : decode cX7_checkRunning 1 = .ok (.getfield 37, 3) := by decide +kernel
theorem dX7_checkRunning_4 : decode cX7_checkRunning 4 = .ok (.ifCond .ne 11, 3) := by decide +kernel
theorem dX7_checkRunning_7 : decode cX7_checkRunning 7 = .ok (.new 45, 3) := by decide +kernel
theorem dX7_checkRunning_10 : decode cX7_checkRunning 10 = .ok (.dup, 1) := by decide +kernel
theorem dX7_checkRunning_11 : decode cX7_checkRunning 11 = .ok (.invokespecial 47, 3) := by decide +kernel
theorem dX7_checkRunning_14 : decode cX7_checkRunning 14 = .ok (.athrow, 1) := by decide +kernel
theorem dX7_checkRunning_15 : decode cX7_checkRunning 15 = .ok (.return_, 1) := by decide +kernel
theorem dX7_checkState_0 : decode cX7_checkState 0 = .ok (.iload_n 1, 1) := by decide +kernel
theorem dX7_checkState_1 : decode cX7_checkState 1 = .ok (.iconst 0, 1) := by decide +kernel
theorem dX7_checkState_2 : decode cX7_checkState 2 = .ok (.aload_n 0, 1) := by decide +kernel
theorem dX7_checkState_3 : decode cX7_checkState 3 = .ok (.getfield 10, 3) := by decide +kernel
theorem dX7_checkState_6 : decode cX7_checkState 6 = .ok (.getfield 41, 3) := by decide +kernel
theorem dX7_checkState_9 : decode cX7_checkState 9 = .ok (.iconst 1, 1) := by decide +kernel
theorem dX7_checkState_10 : decode cX7_checkState 10 = .ok (.isub, 1) := by decide +kernel
theorem dX7_checkState_11 : decode cX7_checkState 11 = .ok (.invokestatic 52, 3) := by decide +kernel
theorem dX7_checkState_14 : decode cX7_checkState 14 = .ok (.ifCond .ne 11, 3) := by decide +kernel
theorem dX7_checkState_17 : decode cX7_checkState 17 = .ok (.new 200, 3) := by decide +kernel
theorem dX7_checkState_20 : decode cX7_checkState 20 = .ok (.dup, 1) := by decide +kernel
theorem dX7_checkState_21 : decode cX7_checkState 21 = .ok (.invokespecial 202, 3) := by decide +kernel
theorem dX7_checkState_24 : decode cX7_checkState 24 = .ok (.athrow, 1) := by decide +kernel
theorem dX7_checkState_25 : decode cX7_checkState 25 = .ok (.return_, 1) := by decide +kernel
theorem dX7_checkTransition_0 : decode cX7_checkTransition 0 = .ok (.iload_n 1, 1) := by decide +kernel
theorem dX7_checkTransition_1 : decode cX7_checkTransition 1 = .ok (.iconst 0, 1) := by decide +kernel
theorem dX7_checkTransition_2 : decode cX7_checkTransition 2 = .ok (.aload_n 0, 1) := by decide +kernel
theorem dX7_checkTransition_3 : decode cX7_checkTransition 3 = .ok (.getfield 10, 3) := by decide +kernel
theorem dX7_checkTransition_6 : decode cX7_checkTransition 6 = .ok (.getfield 111, 3) := by decide +kernel
theorem dX7_checkTransition_9 : decode cX7_checkTransition 9 = .ok (.iconst 1, 1) := by decide +kernel
theorem dX7_checkTransition_10 : decode cX7_checkTransition 10 = .ok (.isub, 1) := by decide +kernel
theorem dX7_checkTransition_11 : decode cX7_checkTransition 11 = .ok (.invokestatic 52, 3) := by decide +kernel
theorem dX7_checkTransition_14 : decode cX7_checkTransition 14 = .ok (.ifCond .ne 11, 3) := by decide +kernel
theorem dX7_checkTransition_17 : decode cX7_checkTransition 17 = .ok (.new 200, 3) := by decide +kernel
theorem dX7_checkTransition_20 : decode cX7_checkTransition 20 = .ok (.dup, 1) := by decide +kernel
theorem dX7_checkTransition_21 : decode cX7_checkTransition 21 = .ok (.invokespecial 202, 3) := by decide +kernel
theorem dX7_checkTransition_24 : decode cX7_checkTransition 24 = .ok (.athrow, 1) := by decide +kernel
theorem dX7_checkTransition_25 : decode cX7_checkTransition 25 = .ok (.return_, 1) := by decide +kernel
theorem dX7_checkEvent_0 : decode cX7_checkEvent 0 = .ok (.iload_n 0, 1) := by decide +kernel
theorem dX7_checkEvent_1 : decode cX7_checkEvent 1 = .ok (.iconst 0, 1) := by decide +kernel
theorem dX7_checkEvent_2 : decode cX7_checkEvent 2 = .ok (.bipush 9, 2) := by decide +kernel
theorem dX7_checkEvent_4 : decode cX7_checkEvent 4 = .ok (.invokestatic 52, 3) := by decide +kernel
theorem dX7_checkEvent_7 : decode cX7_checkEvent 7 = .ok (.ifCond .ne 11, 3) := by decide +kernel
theorem dX7_checkEvent_10 : decode cX7_checkEvent 10 = .ok (.new 66, 3) := by decide +kernel
theorem dX7_checkEvent_13 : decode cX7_checkEvent 13 = .ok (.dup, 1) := by decide +kernel
theorem dX7_checkEvent_14 : decode cX7_checkEvent 14 = .ok (.invokespecial 68, 3) := by decide +kernel
theorem dX7_checkEvent_17 : decode cX7_checkEvent 17 = .ok (.athrow, 1) := by decide +kernel
theorem dX7_checkEvent_18 : decode cX7_checkEvent 18 = .ok (.return_, 1) := by decide +kernel
theorem dX7_checkMost_0 : decode cX7_checkMost 0 = .ok (.iload_n 0, 1) := by decide +kernel
theorem dX7_checkMost_1 : decode cX7_checkMost 1 = .ok (.iconst 1, 1) := by decide +kernel
theorem dX7_checkMost_2 : decode cX7_checkMost 2 = .ok (.bipush 8, 2) := by decide +kernel
theorem dX7_checkMost_4 : decode cX7_checkMost 4 = .ok (.invokestatic 52, 3) := by decide +kernel
theorem dX7_checkMost_7 : decode cX7_checkMost 7 = .ok (.ifCond .ne 11, 3) := by decide +kernel
theorem dX7_checkMost_10 : decode cX7_checkMost 10 = .ok (.new 66, 3) := by decide +kernel
theorem dX7_checkMost_13 : decode cX7_checkMost 13 = .ok (.dup, 1) := by decide +kernel
theorem dX7_checkMost_14 : decode cX7_checkMost 14 = .ok (.invokespecial 68, 3) := by decide +kernel
theorem dX7_checkMost_17 : decode cX7_checkMost 17 = .ok (.athrow, 1) := by decide +kernel
theorem dX7_checkMost_18 : decode cX7_checkMost 18 = .ok (.return_, 1) := by decide +kernel
theorem dX7_isTrigger_0 : decode cX7_isTrigger 0 = .ok (.iload_n 0, 1) := by decide +kernel
theorem dX7_isTrigger_1 : decode cX7_isTrigger 1 = .ok (.ifCond .ne 11, 3) := by decide +kernel
theorem dX7_isTrigger_4 : decode cX7_isTrigger 4 = .ok (.iload_n 1, 1) := by decide +kernel
theorem dX7_isTrigger_5 : decode cX7_isTrigger 5 = .ok (.iconst 0, 1) := by decide +kernel
theorem dX7_isTrigger_6 : decode cX7_isTrigger 6 = .ok (.bipush 9, 2) := by decide +kernel
theorem dX7_isTrigger_8 : decode cX7_isTrigger 8 = .ok (.invokestatic 52, 3) := by decide +kernel
theorem dX7_isTrigger_11 : decode cX7_isTrigger 11 = .ok (.ireturn, 1) := by decide +kernel
theorem dX7_isTrigger_12 : decode cX7_isTrigger 12 = .ok (.iload_n 0, 1) := by decide +kernel
theorem dX7_isTrigger_13 : decode cX7_isTrigger 13 = .ok (.iconst 1, 1) := by decide +kernel
theorem dX7_isTrigger_14 : decode cX7_isTrigger 14 = .ok (.if_icmp .ne 11, 3) := by decide +kernel
theorem dX7_isTrigger_17 : decode cX7_isTrigger 17 = .ok (.iload_n 1, 1) := by decide +kernel
theorem dX7_isTrigger_18 : decode cX7_isTrigger 18 = .ok (.iconst 1, 1) := by decide +kernel
theorem dX7_isTrigger_19 : decode cX7_isTrigger 19 = .ok (.bipush 50, 2) := by decide +kernel
theorem dX7_isTrigger_21 : decode cX7_isTrigger 21 = .ok (.invokestatic 52, 3) := by decide +kernel
theorem dX7_isTrigger_24 : decode cX7_isTrigger 24 = .ok (.ireturn, 1) := by decide +kernel
theorem dX7_isTrigger_25 : decode cX7_isTrigger 25 = .ok (.iload_n 0, 1) := by decide +kernel
theorem dX7_isTrigger_26 : decode cX7_isTrigger 26 = .ok (.iconst 2, 1) := by decide +kernel
theorem dX7_isTrigger_27 : decode cX7_isTrigger 27 = .ok (.if_icmp .eq 8, 3) := by decide +kernel
theorem dX7_isTrigger_30 : decode cX7_isTrigger 30 = .ok (.iload_n 0, 1) := by decide +kernel
theorem dX7_isTrigger_31 : decode cX7_isTrigger 31 = .ok (.iconst 3, 1) := by decide +kernel
theorem dX7_isTrigger_32 : decode cX7_isTrigger 32 = .ok (.if_icmp .ne 7, 3) := by decide +kernel
theorem dX7_isTrigger_35 : decode cX7_isTrigger 35 = .ok (.iconst 1, 1) := by decide +kernel
theorem dX7_isTrigger_36 : decode cX7_isTrigger 36 = .ok (.goto 4, 3) := by decide +kernel
theorem dX7_isTrigger_39 : decode cX7_isTrigger 39 = .ok (.iconst 0, 1) := by decide +kernel
theorem dX7_isTrigger_40 : decode cX7_isTrigger 40 = .ok (.ireturn, 1) := by decide +kernel
theorem dX7_isGuard_0 : decode cX7_isGuard 0 = .ok (.iload_n 0, 1) := by decide +kernel
theorem dX7_isGuard_1 : decode cX7_isGuard 1 = .ok (.ifCond .ne 5, 3) := by decide +kernel
theorem dX7_isGuard_4 : decode cX7_isGuard 4 = .ok (.iconst 1, 1) := by decide +kernel
theorem dX7_isGuard_5 : decode cX7_isGuard 5 = .ok (.ireturn, 1) := by decide +kernel
theorem dX7_isGuard_6 : decode cX7_isGuard 6 = .ok (.iload_n 0, 1) := by decide +kernel
theorem dX7_isGuard_7 : decode cX7_isGuard 7 = .ok (.iconst 1, 1) := by decide +kernel
theorem dX7_isGuard_8 : decode cX7_isGuard 8 = .ok (.iconst 3, 1) := by decide +kernel
theorem dX7_isGuard_9 : decode cX7_isGuard 9 = .ok (.invokestatic 52, 3) := by decide +kernel
theorem dX7_isGuard_12 : decode cX7_isGuard 12 = .ok (.ifCond .eq 23, 3) := by decide +kernel
theorem dX7_isGuard_15 : decode cX7_isGuard 15 = .ok (.iload_n 1, 1) := by decide +kernel
theorem dX7_isGuard_16 : decode cX7_isGuard 16 = .ok (.iconst 0, 1) := by decide +kernel
theorem dX7_isGuard_17 : decode cX7_isGuard 17 = .ok (.iconst 3, 1) := by decide +kernel
theorem dX7_isGuard_18 : decode cX7_isGuard 18 = .ok (.invokestatic 52, 3) := by decide +kernel
theorem dX7_isGuard_21 : decode cX7_isGuard 21 = .ok (.ifCond .eq 14, 3) := by decide +kernel
theorem dX7_isGuard_24 : decode cX7_isGuard 24 = .ok (.iload_n 2, 1) := by decide +kernel
theorem dX7_isGuard_25 : decode cX7_isGuard 25 = .ok (.invokestatic 290, 3) := by decide +kernel
theorem dX7_isGuard_28 : decode cX7_isGuard 28 = .ok (.ifCond .eq 7, 3) := by decide +kernel
theorem dX7_isGuard_31 : decode cX7_isGuard 31 = .ok (.iconst 1, 1) := by decide +kernel
theorem dX7_isGuard_32 : decode cX7_isGuard 32 = .ok (.goto 4, 3) := by decide +kernel
theorem dX7_isGuard_35 : decode cX7_isGuard 35 = .ok (.iconst 0, 1) := by decide +kernel
theorem dX7_isGuard_36 : decode cX7_isGuard 36 = .ok (.ireturn, 1) := by decide +kernel
theorem dX7_isAction_0 : decode cX7_isAction 0 = .ok (.iload_n 0, 1) := by decide +kernel
theorem dX7_isAction_1 : decode cX7_isAction 1 = .ok (.ifCond .ne 5, 3) := by decide +kernel
theorem dX7_isAction_4 : decode cX7_isAction 4 = .ok (.iconst 1, 1) := by decide +kernel
theorem dX7_isAction_5 : decode cX7_isAction 5 = .ok (.ireturn, 1) := by decide +kernel
theorem dX7_isAction_6 : decode cX7_isAction 6 = .ok (.iload_n 0, 1) := by decide +kernel
theorem dX7_isAction_7 : decode cX7_isAction 7 = .ok (.iconst 3, 1) := by decide +kernel
theorem dX7_isAction_8 : decode cX7_isAction 8 = .ok (.if_icmp .ne 11, 3) := by decide +kernel
theorem dX7_isAction_11 : decode cX7_isAction 11 = .ok (.iload_n 1, 1) := by decide +kernel
theorem dX7_isAction_12 : decode cX7_isAction 12 = .ok (.iconst 0, 1) := by decide +kernel
theorem dX7_isAction_13 : decode cX7_isAction 13 = .ok (.bipush 9, 2) := by decide +kernel
theorem dX7_isAction_15 : decode cX7_isAction 15 = .ok (.invokestatic 52, 3) := by decide +kernel
theorem dX7_isAction_18 : decode cX7_isAction 18 = .ok (.ireturn, 1) := by decide +kernel
theorem dX7_isAction_19 : decode cX7_isAction 19 = .ok (.iload_n 0, 1) := by decide +kernel
theorem dX7_isAction_20 : decode cX7_isAction 20 = .ok (.iconst 1, 1) := by decide +kernel
theorem dX7_isAction_21 : decode cX7_isAction 21 = .ok (.iconst 2, 1) := by decide +kernel
theorem dX7_isAction_22 : decode cX7_isAction 22 = .ok (.invokestatic 52, 3) := by decide +kernel
theorem dX7_isAction_25 : decode cX7_isAction 25 = .ok (.ifCond .eq 23, 3) := by decide +kernel
theorem dX7_isAction_28 : decode cX7_isAction 28 = .ok (.iload_n 1, 1) := by decide +kernel
theorem dX7_isAction_29 : decode cX7_isAction 29 = .ok (.iconst 0, 1) := by decide +kernel
theorem dX7_isAction_30 : decode cX7_isAction 30 = .ok (.iconst 3, 1) := by decide +kernel
theorem dX7_isAction_31 : decode cX7_isAction 31 = .ok (.invokestatic 52, 3) := by decide +kernel
theorem dX7_isAction_34 : decode cX7_isAction 34 = .ok (.ifCond .eq 14, 3) := by decide +kernel
theorem dX7_isAction_37 : decode cX7_isAction 37 = .ok (.iload_n 2, 1) := by decide +kernel
theorem dX7_isAction_38 : decode cX7_isAction 38 = .ok (.invokestatic 290, 3) := by decide +kernel
theorem dX7_isAction_41 : decode cX7_isAction 41 = .ok (.ifCond .eq 7, 3) := by decide +kernel
theorem dX7_isAction_44 : decode cX7_isAction 44 = .ok (.iconst 1, 1) := by decide +kernel
theorem dX7_isAction_45 : decode cX7_isAction 45 = .ok (.goto 4, 3) := by decide +kernel
theorem dX7_isAction_48 : decode cX7_isAction 48 = .ok (.iconst 0, 1) := by decide +kernel
theorem dX7_isAction_49 : decode cX7_isAction 49 = .ok (.ireturn, 1) := by decide +kernel
theorem dX7_addState_0 : decode cX7_addState 0 = .ok (.aload_n 0, 1) := by decide +kernel
theorem dX7_addState_1 : decode cX7_addState 1 = .ok (.getfield 37, 3) := by decide +kernel
theorem dX7_addState_4 : decode cX7_addState 4 = .ok (.ifCond .ne 15, 3) := by decide +kernel
theorem dX7_addState_7 : decode cX7_addState 7 = .ok (.aload_n 0, 1) := by decide +kernel
theorem dX7_addState_8 : decode cX7_addState 8 = .ok (.getfield 10, 3) := by decide +kernel
theorem dX7_addState_11 : decode cX7_addState 11 = .ok (.getfield 41, 3) := by decide +kernel
theorem dX7_addState_14 : decode cX7_addState 14 = .ok (.bipush 20, 2) := by decide +kernel
theorem dX7_addState_16 : decode cX7_addState 16 = .ok (.if_icmp .lt 11, 3) := by decide +kernel
theorem dX7_addState_19 : decode cX7_addState 19 = .ok (.new 45, 3) := by decide +kernel
theorem dX7_addState_22 : decode cX7_addState 22 = .ok (.dup, 1) := by decide +kernel
theorem dX7_addState_23 : decode cX7_addState 23 = .ok (.invokespecial 47, 3) := by decide +kernel
theorem dX7_addState_26 : decode cX7_addState 26 = .ok (.athrow, 1) := by decide +kernel
theorem dX7_addState_27 : decode cX7_addState 27 = .ok (.aload_n 0, 1) := by decide +kernel
theorem dX7_addState_28 : decode cX7_addState 28 = .ok (.iload_n 1, 1) := by decide +kernel
theorem dX7_addState_29 : decode cX7_addState 29 = .ok (.invokevirtual 48, 3) := by decide +kernel
theorem dX7_addState_32 : decode cX7_addState 32 = .ok (.iload_n 2, 1) := by decide +kernel
theorem dX7_addState_33 : decode cX7_addState 33 = .ok (.iconst 0, 1) := by decide +kernel
theorem dX7_addState_34 : decode cX7_addState 34 = .ok (.iconst 4, 1) := by decide +kernel
theorem dX7_addState_35 : decode cX7_addState 35 = .ok (.invokestatic 52, 3) := by decide +kernel
theorem dX7_addState_38 : decode cX7_addState 38 = .ok (.ifCond .eq 18, 3) := by decide +kernel
theorem dX7_addState_41 : decode cX7_addState 41 = .ok (.aload_n 0, 1) := by decide +kernel
theorem dX7_addState_42 : decode cX7_addState 42 = .ok (.getfield 10, 3) := by decide +kernel
theorem dX7_addState_45 : decode cX7_addState 45 = .ok (.getfield 56, 3) := by decide +kernel
theorem dX7_addState_48 : decode cX7_addState 48 = .ok (.iload_n 1, 1) := by decide +kernel
theorem dX7_addState_49 : decode cX7_addState 49 = .ok (.aaload, 1) := by decide +kernel
theorem dX7_addState_50 : decode cX7_addState 50 = .ok (.invokevirtual 60, 3) := by decide +kernel
theorem dX7_addState_53 : decode cX7_addState 53 = .ok (.ifCond .ne 11, 3) := by decide +kernel
theorem dX7_addState_56 : decode cX7_addState 56 = .ok (.new 66, 3) := by decide +kernel
theorem dX7_addState_59 : decode cX7_addState 59 = .ok (.dup, 1) := by decide +kernel
theorem dX7_addState_60 : decode cX7_addState 60 = .ok (.invokespecial 68, 3) := by decide +kernel
theorem dX7_addState_63 : decode cX7_addState 63 = .ok (.athrow, 1) := by decide +kernel
theorem dX7_addState_64 : decode cX7_addState 64 = .ok (.iload_n 2, 1) := by decide +kernel
theorem dX7_addState_65 : decode cX7_addState 65 = .ok (.iconst 2, 1) := by decide +kernel
theorem dX7_addState_66 : decode cX7_addState 66 = .ok (.if_icmp .ne 27, 3) := by decide +kernel
theorem dX7_addState_69 : decode cX7_addState 69 = .ok (.aload_n 0, 1) := by decide +kernel
theorem dX7_addState_70 : decode cX7_addState 70 = .ok (.getfield 10, 3) := by decide +kernel
theorem dX7_addState_73 : decode cX7_addState 73 = .ok (.getfield 56, 3) := by decide +kernel
theorem dX7_addState_76 : decode cX7_addState 76 = .ok (.iload_n 1, 1) := by decide +kernel
theorem dX7_addState_77 : decode cX7_addState 77 = .ok (.aaload, 1) := by decide +kernel
theorem dX7_addState_78 : decode cX7_addState 78 = .ok (.getfield 69, 3) := by decide +kernel
theorem dX7_addState_81 : decode cX7_addState 81 = .ok (.iconst 1, 1) := by decide +kernel
theorem dX7_addState_82 : decode cX7_addState 82 = .ok (.if_icmp .ne 11, 3) := by decide +kernel
theorem dX7_addState_85 : decode cX7_addState 85 = .ok (.new 66, 3) := by decide +kernel
theorem dX7_addState_88 : decode cX7_addState 88 = .ok (.dup, 1) := by decide +kernel
theorem dX7_addState_89 : decode cX7_addState 89 = .ok (.invokespecial 68, 3) := by decide +kernel
theorem dX7_addState_92 : decode cX7_addState 92 = .ok (.athrow, 1) := by decide +kernel
theorem dX7_addState_93 : decode cX7_addState 93 = .ok (.aload_n 0, 1) := by decide +kernel
theorem dX7_addState_94 : decode cX7_addState 94 = .ok (.getfield 10, 3) := by decide +kernel
theorem dX7_addState_97 : decode cX7_addState 97 = .ok (.iload_n 1, 1) := by decide +kernel
theorem dX7_addState_98 : decode cX7_addState 98 = .ok (.iload_n 2, 1) := by decide +kernel
theorem dX7_addState_99 : decode cX7_addState 99 = .ok (.invokevirtual 72, 3) := by decide +kernel
theorem dX7_addState_102 : decode cX7_addState 102 = .ok (.ireturn, 1) := by decide +kernel
theorem dX7_setDoing_0 : decode cX7_setDoing 0 = .ok (.aload_n 0, 1) := by decide +kernel
theorem dX7_setDoing_1 : decode cX7_setDoing 1 = .ok (.invokevirtual 76, 3) := by decide +kernel
theorem dX7_setDoing_4 : decode cX7_setDoing 4 = .ok (.aload_n 0, 1) := by decide +kernel
theorem dX7_setDoing_5 : decode cX7_setDoing 5 = .ok (.iload_n 1, 1) := by decide +kernel
theorem dX7_setDoing_6 : decode cX7_setDoing 6 = .ok (.invokevirtual 48, 3) := by decide +kernel
theorem dX7_setDoing_9 : decode cX7_setDoing 9 = .ok (.aload_n 0, 1) := by decide +kernel
theorem dX7_setDoing_10 : decode cX7_setDoing 10 = .ok (.getfield 10, 3) := by decide +kernel
theorem dX7_setDoing_13 : decode cX7_setDoing 13 = .ok (.getfield 56, 3) := by decide +kernel
theorem dX7_setDoing_16 : decode cX7_setDoing 16 = .ok (.iload_n 1, 1) := by decide +kernel
theorem dX7_setDoing_17 : decode cX7_setDoing 17 = .ok (.aaload, 1) := by decide +kernel
theorem dX7_setDoing_18 : decode cX7_setDoing 18 = .ok (.astore 6, 2) := by decide +kernel
theorem dX7_setDoing_20 : decode cX7_setDoing 20 = .ok (.aload 6, 2) := by decide +kernel
theorem dX7_setDoing_22 : decode cX7_setDoing 22 = .ok (.invokevirtual 92, 3) := by decide +kernel
theorem dX7_setDoing_25 : decode cX7_setDoing 25 = .ok (.ifCond .ne 14, 3) := by decide +kernel
theorem dX7_setDoing_28 : decode cX7_setDoing 28 = .ok (.iload_n 3, 1) := by decide +kernel
theorem dX7_setDoing_29 : decode cX7_setDoing 29 = .ok (.iload 4, 2) := by decide +kernel
theorem dX7_setDoing_31 : decode cX7_setDoing 31 = .ok (.iload 5, 2) := by decide +kernel
theorem dX7_setDoing_33 : decode cX7_setDoing 33 = .ok (.invokestatic 95, 3) := by decide +kernel
theorem dX7_setDoing_36 : decode cX7_setDoing 36 = .ok (.ifCond .ne 11, 3) := by decide +kernel
theorem dX7_setDoing_39 : decode cX7_setDoing 39 = .ok (.new 66, 3) := by decide +kernel
theorem dX7_setDoing_42 : decode cX7_setDoing 42 = .ok (.dup, 1) := by decide +kernel
theorem dX7_setDoing_43 : decode cX7_setDoing 43 = .ok (.invokespecial 68, 3) := by decide +kernel
theorem dX7_setDoing_46 : decode cX7_setDoing 46 = .ok (.athrow, 1) := by decide +kernel
theorem dX7_setDoing_47 : decode cX7_setDoing 47 = .ok (.iload_n 2, 1) := by decide +kernel
theorem dX7_setDoing_48 : decode cX7_setDoing 48 = .ok (.ifCond .eq 11, 3) := by decide +kernel
theorem dX7_setDoing_51 : decode cX7_setDoing 51 = .ok (.aload 6, 2) := by decide +kernel
theorem dX7_setDoing_53 : decode cX7_setDoing 53 = .ok (.getfield 98, 3) := by decide +kernel
theorem dX7_setDoing_56 : decode cX7_setDoing 56 = .ok (.goto 8, 3) := by decide +kernel
theorem dX7_setDoing_59 : decode cX7_setDoing 59 = .ok (.aload 6, 2) := by decide +kernel
theorem dX7_setDoing_61 : decode cX7_setDoing 61 = .ok (.getfield 102, 3) := by decide +kernel
theorem dX7_setDoing_64 : decode cX7_setDoing 64 = .ok (.astore 7, 2) := by decide +kernel
theorem dX7_setDoing_66 : decode cX7_setDoing 66 = .ok (.aload 7, 2) := by decide +kernel
theorem dX7_setDoing_68 : decode cX7_setDoing 68 = .ok (.iload_n 3, 1) := by decide +kernel
theorem dX7_setDoing_69 : decode cX7_setDoing 69 = .ok (.iload 4, 2) := by decide +kernel
theorem dX7_setDoing_71 : decode cX7_setDoing 71 = .ok (.iload 5, 2) := by decide +kernel
theorem dX7_setDoing_73 : decode cX7_setDoing 73 = .ok (.invokevirtual 105, 3) := by decide +kernel
theorem dX7_setDoing_76 : decode cX7_setDoing 76 = .ok (.ireturn, 1) := by decide +kernel
theorem dX7_addTransition_0 : decode cX7_addTransition 0 = .ok (.aload_n 0, 1) := by decide +kernel
theorem dX7_addTransition_1 : decode cX7_addTransition 1 = .ok (.getfield 37, 3) := by decide +kernel
theorem dX7_addTransition_4 : decode cX7_addTransition 4 = .ok (.ifCond .ne 15, 3) := by decide +kernel
theorem dX7_addTransition_7 : decode cX7_addTransition 7 = .ok (.aload_n 0, 1) := by decide +kernel
theorem dX7_addTransition_8 : decode cX7_addTransition 8 = .ok (.getfield 10, 3) := by decide +kernel
theorem dX7_addTransition_11 : decode cX7_addTransition 11 = .ok (.getfield 111, 3) := by decide +kernel
theorem dX7_addTransition_14 : decode cX7_addTransition 14 = .ok (.bipush 30, 2) := by decide +kernel
theorem dX7_addTransition_16 : decode cX7_addTransition 16 = .ok (.if_icmp .lt 11, 3) := by decide +kernel
theorem dX7_addTransition_19 : decode cX7_addTransition 19 = .ok (.new 45, 3) := by decide +kernel
theorem dX7_addTransition_22 : decode cX7_addTransition 22 = .ok (.dup, 1) := by decide +kernel
theorem dX7_addTransition_23 : decode cX7_addTransition 23 = .ok (.invokespecial 47, 3) := by decide +kernel
theorem dX7_addTransition_26 : decode cX7_addTransition 26 = .ok (.athrow, 1) := by decide +kernel
theorem dX7_addTransition_27 : decode cX7_addTransition 27 = .ok (.aload_n 0, 1) := by decide +kernel
theorem dX7_addTransition_28 : decode cX7_addTransition 28 = .ok (.iload_n 1, 1) := by decide +kernel
theorem dX7_addTransition_29 : decode cX7_addTransition 29 = .ok (.invokevirtual 48, 3) := by decide +kernel
theorem dX7_addTransition_32 : decode cX7_addTransition 32 = .ok (.iload 4, 2) := by decide +kernel
theorem dX7_addTransition_34 : decode cX7_addTransition 34 = .ok (.iconst (-1), 1) := by decide +kernel
theorem dX7_addTransition_35 : decode cX7_addTransition 35 = .ok (.if_icmp .eq 9, 3) := by decide +kernel
theorem dX7_addTransition_38 : decode cX7_addTransition 38 = .ok (.aload_n 0, 1) := by decide +kernel
theorem dX7_addTransition_39 : decode cX7_addTransition 39 = .ok (.iload 4, 2) := by decide +kernel
theorem dX7_addTransition_41 : decode cX7_addTransition 41 = .ok (.invokevirtual 48, 3) := by decide +kernel
theorem dX7_addTransition_44 : decode cX7_addTransition 44 = .ok (.aload_n 0, 1) := by decide +kernel
theorem dX7_addTransition_45 : decode cX7_addTransition 45 = .ok (.getfield 10, 3) := by decide +kernel
theorem dX7_addTransition_48 : decode cX7_addTransition 48 = .ok (.getfield 56, 3) := by decide +kernel
theorem dX7_addTransition_51 : decode cX7_addTransition 51 = .ok (.iload_n 1, 1) := by decide +kernel
theorem dX7_addTransition_52 : decode cX7_addTransition 52 = .ok (.aaload, 1) := by decide +kernel
theorem dX7_addTransition_53 : decode cX7_addTransition 53 = .ok (.invokevirtual 60, 3) := by decide +kernel
theorem dX7_addTransition_56 : decode cX7_addTransition 56 = .ok (.ifCond .eq 11, 3) := by decide +kernel
theorem dX7_addTransition_59 : decode cX7_addTransition 59 = .ok (.iload_n 2, 1) := by decide +kernel
theorem dX7_addTransition_60 : decode cX7_addTransition 60 = .ok (.iload_n 3, 1) := by decide +kernel
theorem dX7_addTransition_61 : decode cX7_addTransition 61 = .ok (.invokestatic 114, 3) := by decide +kernel
theorem dX7_addTransition_64 : decode cX7_addTransition 64 = .ok (.ifCond .ne 11, 3) := by decide +kernel
theorem dX7_addTransition_67 : decode cX7_addTransition 67 = .ok (.new 66, 3) := by decide +kernel
theorem dX7_addTransition_70 : decode cX7_addTransition 70 = .ok (.dup, 1) := by decide +kernel
theorem dX7_addTransition_71 : decode cX7_addTransition 71 = .ok (.invokespecial 68, 3) := by decide +kernel
theorem dX7_addTransition_74 : decode cX7_addTransition 74 = .ok (.athrow, 1) := by decide +kernel
theorem dX7_addTransition_75 : decode cX7_addTransition 75 = .ok (.iload 4, 2) := by decide +kernel
theorem dX7_addTransition_77 : decode cX7_addTransition 77 = .ok (.ifCond .eq 13, 3) := by decide +kernel
theorem dX7_addTransition_80 : decode cX7_addTransition 80 = .ok (.iload_n 1, 1) := by decide +kernel
theorem dX7_addTransition_81 : decode cX7_addTransition 81 = .ok (.ifCond .ne 17, 3) := by decide +kernel
theorem dX7_addTransition_84 : decode cX7_addTransition 84 = .ok (.iload 4, 2) := by decide +kernel
theorem dX7_addTransition_86 : decode cX7_addTransition 86 = .ok (.iconst (-1), 1) := by decide +kernel
theorem dX7_addTransition_87 : decode cX7_addTransition 87 = .ok (.if_icmp .eq 11, 3) := by decide +kernel
theorem dX7_addTransition_90 : decode cX7_addTransition 90 = .ok (.new 66, 3) := by decide +kernel
theorem dX7_addTransition_93 : decode cX7_addTransition 93 = .ok (.dup, 1) := by decide +kernel
theorem dX7_addTransition_94 : decode cX7_addTransition 94 = .ok (.invokespecial 68, 3) := by decide +kernel
theorem dX7_addTransition_97 : decode cX7_addTransition 97 = .ok (.athrow, 1) := by decide +kernel
theorem dX7_addTransition_98 : decode cX7_addTransition 98 = .ok (.aload_n 0, 1) := by decide +kernel
theorem dX7_addTransition_99 : decode cX7_addTransition 99 = .ok (.getfield 10, 3) := by decide +kernel
theorem dX7_addTransition_102 : decode cX7_addTransition 102 = .ok (.iload_n 1, 1) := by decide +kernel
theorem dX7_addTransition_103 : decode cX7_addTransition 103 = .ok (.iload_n 2, 1) := by decide +kernel
theorem dX7_addTransition_104 : decode cX7_addTransition 104 = .ok (.iload_n 3, 1) := by decide +kernel
theorem dX7_addTransition_105 : decode cX7_addTransition 105 = .ok (.iload 4, 2) := by decide +kernel
theorem dX7_addTransition_107 : decode cX7_addTransition 107 = .ok (.invokevirtual 117, 3) := by decide +kernel
theorem dX7_addTransition_110 : decode cX7_addTransition 110 = .ok (.ireturn, 1) := by decide +kernel
theorem dX7_setGuard_0 : decode cX7_setGuard 0 = .ok (.aload_n 0, 1) := by decide +kernel
theorem dX7_setGuard_1 : decode cX7_setGuard 1 = .ok (.invokevirtual 76, 3) := by decide +kernel
theorem dX7_setGuard_4 : decode cX7_setGuard 4 = .ok (.aload_n 0, 1) := by decide +kernel
theorem dX7_setGuard_5 : decode cX7_setGuard 5 = .ok (.iload_n 1, 1) := by decide +kernel
theorem dX7_setGuard_6 : decode cX7_setGuard 6 = .ok (.invokevirtual 121, 3) := by decide +kernel
theorem dX7_setGuard_9 : decode cX7_setGuard 9 = .ok (.iload_n 2, 1) := by decide +kernel
theorem dX7_setGuard_10 : decode cX7_setGuard 10 = .ok (.iload_n 3, 1) := by decide +kernel
theorem dX7_setGuard_11 : decode cX7_setGuard 11 = .ok (.iload 4, 2) := by decide +kernel
theorem dX7_setGuard_13 : decode cX7_setGuard 13 = .ok (.invokestatic 124, 3) := by decide +kernel
theorem dX7_setGuard_16 : decode cX7_setGuard 16 = .ok (.ifCond .ne 11, 3) := by decide +kernel
theorem dX7_setGuard_19 : decode cX7_setGuard 19 = .ok (.new 66, 3) := by decide +kernel
theorem dX7_setGuard_22 : decode cX7_setGuard 22 = .ok (.dup, 1) := by decide +kernel
theorem dX7_setGuard_23 : decode cX7_setGuard 23 = .ok (.invokespecial 68, 3) := by decide +kernel
theorem dX7_setGuard_26 : decode cX7_setGuard 26 = .ok (.athrow, 1) := by decide +kernel
theorem dX7_setGuard_27 : decode cX7_setGuard 27 = .ok (.aload_n 0, 1) := by decide +kernel
theorem dX7_setGuard_28 : decode cX7_setGuard 28 = .ok (.getfield 10, 3) := by decide +kernel
theorem dX7_setGuard_31 : decode cX7_setGuard 31 = .ok (.getfield 127, 3) := by decide +kernel
theorem dX7_setGuard_34 : decode cX7_setGuard 34 = .ok (.iload_n 1, 1) := by decide +kernel
theorem dX7_setGuard_35 : decode cX7_setGuard 35 = .ok (.aaload, 1) := by decide +kernel
theorem dX7_setGuard_36 : decode cX7_setGuard 36 = .ok (.astore 5, 2) := by decide +kernel
theorem dX7_setGuard_38 : decode cX7_setGuard 38 = .ok (.aload 5, 2) := by decide +kernel
theorem dX7_setGuard_40 : decode cX7_setGuard 40 = .ok (.getfield 131, 3) := by decide +kernel
theorem dX7_setGuard_43 : decode cX7_setGuard 43 = .ok (.istore 6, 2) := by decide +kernel
theorem dX7_setGuard_45 : decode cX7_setGuard 45 = .ok (.aload 5, 2) := by decide +kernel
theorem dX7_setGuard_47 : decode cX7_setGuard 47 = .ok (.iload_n 2, 1) := by decide +kernel
theorem dX7_setGuard_48 : decode cX7_setGuard 48 = .ok (.putfield 131, 3) := by decide +kernel
theorem dX7_setGuard_51 : decode cX7_setGuard 51 = .ok (.aload 5, 2) := by decide +kernel
theorem dX7_setGuard_53 : decode cX7_setGuard 53 = .ok (.iload_n 3, 1) := by decide +kernel
theorem dX7_setGuard_54 : decode cX7_setGuard 54 = .ok (.putfield 136, 3) := by decide +kernel
theorem dX7_setGuard_57 : decode cX7_setGuard 57 = .ok (.aload 5, 2) := by decide +kernel
theorem dX7_setGuard_59 : decode cX7_setGuard 59 = .ok (.iload 4, 2) := by decide +kernel
theorem dX7_setGuard_61 : decode cX7_setGuard 61 = .ok (.putfield 139, 3) := by decide +kernel
theorem dX7_setGuard_64 : decode cX7_setGuard 64 = .ok (.iload 6, 2) := by decide +kernel
theorem dX7_setGuard_66 : decode cX7_setGuard 66 = .ok (.ireturn, 1) := by decide +kernel
theorem dX7_setAction_0 : decode cX7_setAction 0 = .ok (.aload_n 0, 1) := by decide +kernel
theorem dX7_setAction_1 : decode cX7_setAction 1 = .ok (.invokevirtual 76, 3) := by decide +kernel
theorem dX7_setAction_4 : decode cX7_setAction 4 = .ok (.aload_n 0, 1) := by decide +kernel
theorem dX7_setAction_5 : decode cX7_setAction 5 = .ok (.iload_n 1, 1) := by decide +kernel
theorem dX7_setAction_6 : decode cX7_setAction 6 = .ok (.invokevirtual 121, 3) := by decide +kernel
theorem dX7_setAction_9 : decode cX7_setAction 9 = .ok (.iload_n 2, 1) := by decide +kernel
theorem dX7_setAction_10 : decode cX7_setAction 10 = .ok (.iload_n 3, 1) := by decide +kernel
theorem dX7_setAction_11 : decode cX7_setAction 11 = .ok (.iload 4, 2) := by decide +kernel
theorem dX7_setAction_13 : decode cX7_setAction 13 = .ok (.invokestatic 95, 3) := by decide +kernel
theorem dX7_setAction_16 : decode cX7_setAction 16 = .ok (.ifCond .ne 11, 3) := by decide +kernel
theorem dX7_setAction_19 : decode cX7_setAction 19 = .ok (.new 66, 3) := by decide +kernel
theorem dX7_setAction_22 : decode cX7_setAction 22 = .ok (.dup, 1) := by decide +kernel
theorem dX7_setAction_23 : decode cX7_setAction 23 = .ok (.invokespecial 68, 3) := by decide +kernel
theorem dX7_setAction_26 : decode cX7_setAction 26 = .ok (.athrow, 1) := by decide +kernel
theorem dX7_setAction_27 : decode cX7_setAction 27 = .ok (.aload_n 0, 1) := by decide +kernel
theorem dX7_setAction_28 : decode cX7_setAction 28 = .ok (.getfield 10, 3) := by decide +kernel
theorem dX7_setAction_31 : decode cX7_setAction 31 = .ok (.getfield 127, 3) := by decide +kernel
theorem dX7_setAction_34 : decode cX7_setAction 34 = .ok (.iload_n 1, 1) := by decide +kernel
theorem dX7_setAction_35 : decode cX7_setAction 35 = .ok (.aaload, 1) := by decide +kernel
theorem dX7_setAction_36 : decode cX7_setAction 36 = .ok (.getfield 142, 3) := by decide +kernel
theorem dX7_setAction_39 : decode cX7_setAction 39 = .ok (.iload_n 2, 1) := by decide +kernel
theorem dX7_setAction_40 : decode cX7_setAction 40 = .ok (.iload_n 3, 1) := by decide +kernel
theorem dX7_setAction_41 : decode cX7_setAction 41 = .ok (.iload 4, 2) := by decide +kernel
theorem dX7_setAction_43 : decode cX7_setAction 43 = .ok (.invokevirtual 105, 3) := by decide +kernel
theorem dX7_setAction_46 : decode cX7_setAction 46 = .ok (.ireturn, 1) := by decide +kernel
theorem dX7_start_0 : decode cX7_start 0 = .ok (.aload_n 0, 1) := by decide +kernel
theorem dX7_start_1 : decode cX7_start 1 = .ok (.invokevirtual 76, 3) := by decide +kernel
theorem dX7_start_4 : decode cX7_start 4 = .ok (.aload_n 0, 1) := by decide +kernel
theorem dX7_start_5 : decode cX7_start 5 = .ok (.iconst 1, 1) := by decide +kernel
theorem dX7_start_6 : decode cX7_start 6 = .ok (.putfield 37, 3) := by decide +kernel
theorem dX7_start_9 : decode cX7_start 9 = .ok (.aload_n 0, 1) := by decide +kernel
theorem dX7_start_10 : decode cX7_start 10 = .ok (.getfield 21, 3) := by decide +kernel
theorem dX7_start_13 : decode cX7_start 13 = .ok (.invokevirtual 145, 3) := by decide +kernel
theorem dX7_start_16 : decode cX7_start 16 = .ok (.aload_n 0, 1) := by decide +kernel
theorem dX7_start_17 : decode cX7_start 17 = .ok (.getfield 21, 3) := by decide +kernel
theorem dX7_start_20 : decode cX7_start 20 = .ok (.aload_n 0, 1) := by decide +kernel
theorem dX7_start_21 : decode cX7_start 21 = .ok (.getfield 10, 3) := by decide +kernel
theorem dX7_start_24 : decode cX7_start 24 = .ok (.iconst 0, 1) := by decide +kernel
theorem dX7_start_25 : decode cX7_start 25 = .ok (.invokestatic 148, 3) := by decide +kernel
theorem dX7_start_28 : decode cX7_start 28 = .ok (.invokevirtual 152, 3) := by decide +kernel
theorem dX7_start_31 : decode cX7_start 31 = .ok (.invokevirtual 155, 3) := by decide +kernel
theorem dX7_start_34 : decode cX7_start 34 = .ok (.aload_n 0, 1) := by decide +kernel
theorem dX7_start_35 : decode cX7_start 35 = .ok (.getfield 21, 3) := by decide +kernel
theorem dX7_start_38 : decode cX7_start 38 = .ok (.bipush 11, 2) := by decide +kernel
theorem dX7_start_40 : decode cX7_start 40 = .ok (.invokevirtual 158, 3) := by decide +kernel
theorem dX7_start_43 : decode cX7_start 43 = .ok (.ireturn, 1) := by decide +kernel
theorem dX7_send_0 : decode cX7_send 0 = .ok (.aload_n 0, 1) := by decide +kernel
theorem dX7_send_1 : decode cX7_send 1 = .ok (.invokevirtual 161, 3) := by decide +kernel
theorem dX7_send_4 : decode cX7_send 4 = .ok (.iload_n 1, 1) := by decide +kernel
theorem dX7_send_5 : decode cX7_send 5 = .ok (.invokestatic 181, 3) := by decide +kernel
theorem dX7_send_8 : decode cX7_send 8 = .ok (.aload_n 0, 1) := by decide +kernel
theorem dX7_send_9 : decode cX7_send 9 = .ok (.getfield 21, 3) := by decide +kernel
theorem dX7_send_12 : decode cX7_send 12 = .ok (.iload_n 1, 1) := by decide +kernel
theorem dX7_send_13 : decode cX7_send 13 = .ok (.invokevirtual 158, 3) := by decide +kernel
theorem dX7_send_16 : decode cX7_send 16 = .ok (.ireturn, 1) := by decide +kernel
theorem dX7_tick_0 : decode cX7_tick 0 = .ok (.aload_n 0, 1) := by decide +kernel
theorem dX7_tick_1 : decode cX7_tick 1 = .ok (.invokevirtual 161, 3) := by decide +kernel
theorem dX7_tick_4 : decode cX7_tick 4 = .ok (.iload_n 1, 1) := by decide +kernel
theorem dX7_tick_5 : decode cX7_tick 5 = .ok (.iconst 1, 1) := by decide +kernel
theorem dX7_tick_6 : decode cX7_tick 6 = .ok (.bipush 50, 2) := by decide +kernel
theorem dX7_tick_8 : decode cX7_tick 8 = .ok (.invokestatic 52, 3) := by decide +kernel
theorem dX7_tick_11 : decode cX7_tick 11 = .ok (.ifCond .ne 11, 3) := by decide +kernel
theorem dX7_tick_14 : decode cX7_tick 14 = .ok (.new 66, 3) := by decide +kernel
theorem dX7_tick_17 : decode cX7_tick 17 = .ok (.dup, 1) := by decide +kernel
theorem dX7_tick_18 : decode cX7_tick 18 = .ok (.invokespecial 68, 3) := by decide +kernel
theorem dX7_tick_21 : decode cX7_tick 21 = .ok (.athrow, 1) := by decide +kernel
theorem dX7_tick_22 : decode cX7_tick 22 = .ok (.iconst 0, 1) := by decide +kernel
theorem dX7_tick_23 : decode cX7_tick 23 = .ok (.istore_n 2, 1) := by decide +kernel
theorem dX7_tick_24 : decode cX7_tick 24 = .ok (.iconst 0, 1) := by decide +kernel
theorem dX7_tick_25 : decode cX7_tick 25 = .ok (.istore_n 3, 1) := by decide +kernel
theorem dX7_tick_26 : decode cX7_tick 26 = .ok (.iload_n 3, 1) := by decide +kernel
theorem dX7_tick_27 : decode cX7_tick 27 = .ok (.iload_n 1, 1) := by decide +kernel
theorem dX7_tick_28 : decode cX7_tick 28 = .ok (.if_icmp .ge 21, 3) := by decide +kernel
theorem dX7_tick_31 : decode cX7_tick 31 = .ok (.iload_n 2, 1) := by decide +kernel
theorem dX7_tick_32 : decode cX7_tick 32 = .ok (.aload_n 0, 1) := by decide +kernel
theorem dX7_tick_33 : decode cX7_tick 33 = .ok (.getfield 21, 3) := by decide +kernel
theorem dX7_tick_36 : decode cX7_tick 36 = .ok (.bipush 10, 2) := by decide +kernel
theorem dX7_tick_38 : decode cX7_tick 38 = .ok (.invokevirtual 158, 3) := by decide +kernel
theorem dX7_tick_41 : decode cX7_tick 41 = .ok (.iadd, 1) := by decide +kernel
theorem dX7_tick_42 : decode cX7_tick 42 = .ok (.istore_n 2, 1) := by decide +kernel
theorem dX7_tick_43 : decode cX7_tick 43 = .ok (.iinc 3 1, 3) := by decide +kernel
theorem dX7_tick_46 : decode cX7_tick 46 = .ok (.goto (-20), 3) := by decide +kernel
theorem dX7_tick_49 : decode cX7_tick 49 = .ok (.iload_n 2, 1) := by decide +kernel
theorem dX7_tick_50 : decode cX7_tick 50 = .ok (.ireturn, 1) := by decide +kernel
theorem dX7_states_0 : decode cX7_states 0 = .ok (.aload_n 0, 1) := by decide +kernel
theorem dX7_states_1 : decode cX7_states 1 = .ok (.getfield 10, 3) := by decide +kernel
theorem dX7_states_4 : decode cX7_states 4 = .ok (.getfield 41, 3) := by decide +kernel
theorem dX7_states_7 : decode cX7_states 7 = .ok (.ireturn, 1) := by decide +kernel
theorem dX7_transitions_0 : decode cX7_transitions 0 = .ok (.aload_n 0, 1) := by decide +kernel
theorem dX7_transitions_1 : decode cX7_transitions 1 = .ok (.getfield 10, 3) := by decide +kernel
theorem dX7_transitions_4 : decode cX7_transitions 4 = .ok (.getfield 111, 3) := by decide +kernel
theorem dX7_transitions_7 : decode cX7_transitions 7 = .ok (.ireturn, 1) := by decide +kernel
theorem dX7_ofState_0 : decode cX7_ofState 0 = .ok (.aload_n 0, 1) := by decide +kernel
theorem dX7_ofState_1 : decode cX7_ofState 1 = .ok (.iload_n 1, 1) := by decide +kernel
theorem dX7_ofState_2 : decode cX7_ofState 2 = .ok (.invokevirtual 48, 3) := by decide +kernel
theorem dX7_ofState_5 : decode cX7_ofState 5 = .ok (.aload_n 0, 1) := by decide +kernel
theorem dX7_ofState_6 : decode cX7_ofState 6 = .ok (.getfield 10, 3) := by decide +kernel
theorem dX7_ofState_9 : decode cX7_ofState 9 = .ok (.getfield 56, 3) := by decide +kernel
theorem dX7_ofState_12 : decode cX7_ofState 12 = .ok (.iload_n 1, 1) := by decide +kernel
theorem dX7_ofState_13 : decode cX7_ofState 13 = .ok (.aaload, 1) := by decide +kernel
theorem dX7_ofState_14 : decode cX7_ofState 14 = .ok (.astore_n 3, 1) := by decide +kernel
theorem dX7_ofState_15 : decode cX7_ofState 15 = .ok (.iload_n 2, 1) := by decide +kernel
theorem dX7_ofState_16 : decode cX7_ofState 16 = .ok (.tableswitch 55 0 3 #[32, 37, 42, 47], 32) := by decide +kernel
theorem dX7_ofState_48 : decode cX7_ofState 48 = .ok (.aload_n 3, 1) := by decide +kernel
theorem dX7_ofState_49 : decode cX7_ofState 49 = .ok (.getfield 69, 3) := by decide +kernel
theorem dX7_ofState_52 : decode cX7_ofState 52 = .ok (.ireturn, 1) := by decide +kernel
theorem dX7_ofState_53 : decode cX7_ofState 53 = .ok (.aload_n 3, 1) := by decide +kernel
theorem dX7_ofState_54 : decode cX7_ofState 54 = .ok (.getfield 184, 3) := by decide +kernel
theorem dX7_ofState_57 : decode cX7_ofState 57 = .ok (.ireturn, 1) := by decide +kernel
theorem dX7_ofState_58 : decode cX7_ofState 58 = .ok (.aload_n 3, 1) := by decide +kernel
theorem dX7_ofState_59 : decode cX7_ofState 59 = .ok (.getfield 86, 3) := by decide +kernel
theorem dX7_ofState_62 : decode cX7_ofState 62 = .ok (.ireturn, 1) := by decide +kernel
theorem dX7_ofState_63 : decode cX7_ofState 63 = .ok (.aload_n 3, 1) := by decide +kernel
theorem dX7_ofState_64 : decode cX7_ofState 64 = .ok (.getfield 79, 3) := by decide +kernel
theorem dX7_ofState_67 : decode cX7_ofState 67 = .ok (.invokestatic 173, 3) := by decide +kernel
theorem dX7_ofState_70 : decode cX7_ofState 70 = .ok (.ireturn, 1) := by decide +kernel
theorem dX7_ofState_71 : decode cX7_ofState 71 = .ok (.new 66, 3) := by decide +kernel
theorem dX7_ofState_74 : decode cX7_ofState 74 = .ok (.dup, 1) := by decide +kernel
theorem dX7_ofState_75 : decode cX7_ofState 75 = .ok (.invokespecial 68, 3) := by decide +kernel
theorem dX7_ofState_78 : decode cX7_ofState 78 = .ok (.athrow, 1) := by decide +kernel
theorem dX7_isRunning_0 : decode cX7_isRunning 0 = .ok (.aload_n 0, 1) := by decide +kernel
theorem dX7_isRunning_1 : decode cX7_isRunning 1 = .ok (.getfield 37, 3) := by decide +kernel
theorem dX7_isRunning_4 : decode cX7_isRunning 4 = .ok (.ireturn, 1) := by decide +kernel
theorem dX7_active_0 : decode cX7_active 0 = .ok (.aload_n 0, 1) := by decide +kernel
theorem dX7_active_1 : decode cX7_active 1 = .ok (.getfield 21, 3) := by decide +kernel
theorem dX7_active_4 : decode cX7_active 4 = .ok (.getfield 164, 3) := by decide +kernel
theorem dX7_active_7 : decode cX7_active 7 = .ok (.getfield 168, 3) := by decide +kernel
theorem dX7_active_10 : decode cX7_active 10 = .ok (.ireturn, 1) := by decide +kernel
theorem dX7_isOver_0 : decode cX7_isOver 0 = .ok (.aload_n 0, 1) := by decide +kernel
theorem dX7_isOver_1 : decode cX7_isOver 1 = .ok (.getfield 37, 3) := by decide +kernel
theorem dX7_isOver_4 : decode cX7_isOver 4 = .ok (.ifCond .eq 17, 3) := by decide +kernel
theorem dX7_isOver_7 : decode cX7_isOver 7 = .ok (.aload_n 0, 1) := by decide +kernel
theorem dX7_isOver_8 : decode cX7_isOver 8 = .ok (.getfield 21, 3) := by decide +kernel
theorem dX7_isOver_11 : decode cX7_isOver 11 = .ok (.invokevirtual 187, 3) := by decide +kernel
theorem dX7_isOver_14 : decode cX7_isOver 14 = .ok (.ifCond .eq 7, 3) := by decide +kernel
theorem dX7_isOver_17 : decode cX7_isOver 17 = .ok (.iconst 1, 1) := by decide +kernel
theorem dX7_isOver_18 : decode cX7_isOver 18 = .ok (.goto 4, 3) := by decide +kernel
theorem dX7_isOver_21 : decode cX7_isOver 21 = .ok (.iconst 0, 1) := by decide +kernel
theorem dX7_isOver_22 : decode cX7_isOver 22 = .ok (.ireturn, 1) := by decide +kernel
theorem dX7_isEnded_0 : decode cX7_isEnded 0 = .ok (.aload_n 0, 1) := by decide +kernel
theorem dX7_isEnded_1 : decode cX7_isEnded 1 = .ok (.iload_n 1, 1) := by decide +kernel
theorem dX7_isEnded_2 : decode cX7_isEnded 2 = .ok (.invokevirtual 48, 3) := by decide +kernel
theorem dX7_isEnded_5 : decode cX7_isEnded 5 = .ok (.aload_n 0, 1) := by decide +kernel
theorem dX7_isEnded_6 : decode cX7_isEnded 6 = .ok (.getfield 10, 3) := by decide +kernel
theorem dX7_isEnded_9 : decode cX7_isEnded 9 = .ok (.aload_n 0, 1) := by decide +kernel
theorem dX7_isEnded_10 : decode cX7_isEnded 10 = .ok (.getfield 21, 3) := by decide +kernel
theorem dX7_isEnded_13 : decode cX7_isEnded 13 = .ok (.getfield 164, 3) := by decide +kernel
theorem dX7_isEnded_16 : decode cX7_isEnded 16 = .ok (.getfield 168, 3) := by decide +kernel
theorem dX7_isEnded_19 : decode cX7_isEnded 19 = .ok (.invokevirtual 190, 3) := by decide +kernel
theorem dX7_isEnded_22 : decode cX7_isEnded 22 = .ok (.iload_n 1, 1) := by decide +kernel
theorem dX7_isEnded_23 : decode cX7_isEnded 23 = .ok (.invokestatic 82, 3) := by decide +kernel
theorem dX7_isEnded_26 : decode cX7_isEnded 26 = .ok (.ireturn, 1) := by decide +kernel
theorem dX7_ageOf_0 : decode cX7_ageOf 0 = .ok (.aload_n 0, 1) := by decide +kernel
theorem dX7_ageOf_1 : decode cX7_ageOf 1 = .ok (.iload_n 1, 1) := by decide +kernel
theorem dX7_ageOf_2 : decode cX7_ageOf 2 = .ok (.invokevirtual 48, 3) := by decide +kernel
theorem dX7_ageOf_5 : decode cX7_ageOf 5 = .ok (.aload_n 0, 1) := by decide +kernel
theorem dX7_ageOf_6 : decode cX7_ageOf 6 = .ok (.getfield 21, 3) := by decide +kernel
theorem dX7_ageOf_9 : decode cX7_ageOf 9 = .ok (.getfield 164, 3) := by decide +kernel
theorem dX7_ageOf_12 : decode cX7_ageOf 12 = .ok (.getfield 193, 3) := by decide +kernel
theorem dX7_ageOf_15 : decode cX7_ageOf 15 = .ok (.iload_n 1, 1) := by decide +kernel
theorem dX7_ageOf_16 : decode cX7_ageOf 16 = .ok (.iaload, 1) := by decide +kernel
theorem dX7_ageOf_17 : decode cX7_ageOf 17 = .ok (.ireturn, 1) := by decide +kernel
theorem dX7_record_0 : decode cX7_record 0 = .ok (.aload_n 0, 1) := by decide +kernel
theorem dX7_record_1 : decode cX7_record 1 = .ok (.iload_n 1, 1) := by decide +kernel
theorem dX7_record_2 : decode cX7_record 2 = .ok (.invokevirtual 48, 3) := by decide +kernel
theorem dX7_record_5 : decode cX7_record 5 = .ok (.aload_n 0, 1) := by decide +kernel
theorem dX7_record_6 : decode cX7_record 6 = .ok (.getfield 10, 3) := by decide +kernel
theorem dX7_record_9 : decode cX7_record 9 = .ok (.getfield 56, 3) := by decide +kernel
theorem dX7_record_12 : decode cX7_record 12 = .ok (.iload_n 1, 1) := by decide +kernel
theorem dX7_record_13 : decode cX7_record 13 = .ok (.aaload, 1) := by decide +kernel
theorem dX7_record_14 : decode cX7_record 14 = .ok (.invokevirtual 92, 3) := by decide +kernel
theorem dX7_record_17 : decode cX7_record 17 = .ok (.ifCond .ne 11, 3) := by decide +kernel
theorem dX7_record_20 : decode cX7_record 20 = .ok (.new 66, 3) := by decide +kernel
theorem dX7_record_23 : decode cX7_record 23 = .ok (.dup, 1) := by decide +kernel
theorem dX7_record_24 : decode cX7_record 24 = .ok (.invokespecial 68, 3) := by decide +kernel
theorem dX7_record_27 : decode cX7_record 27 = .ok (.athrow, 1) := by decide +kernel
theorem dX7_record_28 : decode cX7_record 28 = .ok (.aload_n 0, 1) := by decide +kernel
theorem dX7_record_29 : decode cX7_record 29 = .ok (.getfield 21, 3) := by decide +kernel
theorem dX7_record_32 : decode cX7_record 32 = .ok (.getfield 164, 3) := by decide +kernel
theorem dX7_record_35 : decode cX7_record 35 = .ok (.getfield 197, 3) := by decide +kernel
theorem dX7_record_38 : decode cX7_record 38 = .ok (.iload_n 1, 1) := by decide +kernel
theorem dX7_record_39 : decode cX7_record 39 = .ok (.iaload, 1) := by decide +kernel
theorem dX7_record_40 : decode cX7_record 40 = .ok (.ireturn, 1) := by decide +kernel
theorem dX7_variable_0 : decode cX7_variable 0 = .ok (.iload_n 1, 1) := by decide +kernel
theorem dX7_variable_1 : decode cX7_variable 1 = .ok (.iconst 0, 1) := by decide +kernel
theorem dX7_variable_2 : decode cX7_variable 2 = .ok (.iconst 3, 1) := by decide +kernel
theorem dX7_variable_3 : decode cX7_variable 3 = .ok (.invokestatic 52, 3) := by decide +kernel
theorem dX7_variable_6 : decode cX7_variable 6 = .ok (.ifCond .ne 11, 3) := by decide +kernel
theorem dX7_variable_9 : decode cX7_variable 9 = .ok (.new 200, 3) := by decide +kernel
theorem dX7_variable_12 : decode cX7_variable 12 = .ok (.dup, 1) := by decide +kernel
theorem dX7_variable_13 : decode cX7_variable 13 = .ok (.invokespecial 202, 3) := by decide +kernel
theorem dX7_variable_16 : decode cX7_variable 16 = .ok (.athrow, 1) := by decide +kernel
theorem dX7_variable_17 : decode cX7_variable 17 = .ok (.aload_n 0, 1) := by decide +kernel
theorem dX7_variable_18 : decode cX7_variable 18 = .ok (.getfield 21, 3) := by decide +kernel
theorem dX7_variable_21 : decode cX7_variable 21 = .ok (.getfield 164, 3) := by decide +kernel
theorem dX7_variable_24 : decode cX7_variable 24 = .ok (.getfield 203, 3) := by decide +kernel
theorem dX7_variable_27 : decode cX7_variable 27 = .ok (.iload_n 1, 1) := by decide +kernel
theorem dX7_variable_28 : decode cX7_variable 28 = .ok (.iaload, 1) := by decide +kernel
theorem dX7_variable_29 : decode cX7_variable 29 = .ok (.ireturn, 1) := by decide +kernel
theorem dX7_clock_0 : decode cX7_clock 0 = .ok (.aload_n 0, 1) := by decide +kernel
theorem dX7_clock_1 : decode cX7_clock 1 = .ok (.getfield 21, 3) := by decide +kernel
theorem dX7_clock_4 : decode cX7_clock 4 = .ok (.getfield 206, 3) := by decide +kernel
theorem dX7_clock_7 : decode cX7_clock 7 = .ok (.ireturn, 1) := by decide +kernel
theorem dX7_fired_0 : decode cX7_fired 0 = .ok (.aload_n 0, 1) := by decide +kernel
theorem dX7_fired_1 : decode cX7_fired 1 = .ok (.iload_n 1, 1) := by decide +kernel
theorem dX7_fired_2 : decode cX7_fired 2 = .ok (.invokevirtual 121, 3) := by decide +kernel
theorem dX7_fired_5 : decode cX7_fired 5 = .ok (.aload_n 0, 1) := by decide +kernel
theorem dX7_fired_6 : decode cX7_fired 6 = .ok (.getfield 21, 3) := by decide +kernel
theorem dX7_fired_9 : decode cX7_fired 9 = .ok (.getfield 209, 3) := by decide +kernel
theorem dX7_fired_12 : decode cX7_fired 12 = .ok (.iload_n 1, 1) := by decide +kernel
theorem dX7_fired_13 : decode cX7_fired 13 = .ok (.iaload, 1) := by decide +kernel
theorem dX7_fired_14 : decode cX7_fired 14 = .ok (.ireturn, 1) := by decide +kernel
theorem dX7_covered_0 : decode cX7_covered 0 = .ok (.iconst 0, 1) := by decide +kernel
theorem dX7_covered_1 : decode cX7_covered 1 = .ok (.istore_n 1, 1) := by decide +kernel
theorem dX7_covered_2 : decode cX7_covered 2 = .ok (.iconst 0, 1) := by decide +kernel
theorem dX7_covered_3 : decode cX7_covered 3 = .ok (.istore_n 2, 1) := by decide +kernel
theorem dX7_covered_4 : decode cX7_covered 4 = .ok (.iload_n 2, 1) := by decide +kernel
theorem dX7_covered_5 : decode cX7_covered 5 = .ok (.aload_n 0, 1) := by decide +kernel
theorem dX7_covered_6 : decode cX7_covered 6 = .ok (.getfield 10, 3) := by decide +kernel
theorem dX7_covered_9 : decode cX7_covered 9 = .ok (.getfield 111, 3) := by decide +kernel
theorem dX7_covered_12 : decode cX7_covered 12 = .ok (.if_icmp .ge 24, 3) := by decide +kernel
theorem dX7_covered_15 : decode cX7_covered 15 = .ok (.aload_n 0, 1) := by decide +kernel
theorem dX7_covered_16 : decode cX7_covered 16 = .ok (.getfield 21, 3) := by decide +kernel
theorem dX7_covered_19 : decode cX7_covered 19 = .ok (.getfield 209, 3) := by decide +kernel
theorem dX7_covered_22 : decode cX7_covered 22 = .ok (.iload_n 2, 1) := by decide +kernel
theorem dX7_covered_23 : decode cX7_covered 23 = .ok (.iaload, 1) := by decide +kernel
theorem dX7_covered_24 : decode cX7_covered 24 = .ok (.ifCond .le 6, 3) := by decide +kernel
theorem dX7_covered_27 : decode cX7_covered 27 = .ok (.iinc 1 1, 3) := by decide +kernel
theorem dX7_covered_30 : decode cX7_covered 30 = .ok (.iinc 2 1, 3) := by decide +kernel
theorem dX7_covered_33 : decode cX7_covered 33 = .ok (.goto (-29), 3) := by decide +kernel
theorem dX7_covered_36 : decode cX7_covered 36 = .ok (.iload_n 1, 1) := by decide +kernel
theorem dX7_covered_37 : decode cX7_covered 37 = .ok (.ireturn, 1) := by decide +kernel
theorem dX7_lost_0 : decode cX7_lost 0 = .ok (.aload_n 0, 1) := by decide +kernel
theorem dX7_lost_1 : decode cX7_lost 1 = .ok (.getfield 21, 3) := by decide +kernel
theorem dX7_lost_4 : decode cX7_lost 4 = .ok (.getfield 212, 3) := by decide +kernel
theorem dX7_lost_7 : decode cX7_lost 7 = .ok (.ireturn, 1) := by decide +kernel
theorem dX7_restless_0 : decode cX7_restless 0 = .ok (.aload_n 0, 1) := by decide +kernel
theorem dX7_restless_1 : decode cX7_restless 1 = .ok (.getfield 21, 3) := by decide +kernel
theorem dX7_restless_4 : decode cX7_restless 4 = .ok (.getfield 215, 3) := by decide +kernel
theorem dX7_restless_7 : decode cX7_restless 7 = .ok (.ireturn, 1) := by decide +kernel
theorem dX7_wouldFire_0 : decode cX7_wouldFire 0 = .ok (.aload_n 0, 1) := by decide +kernel
theorem dX7_wouldFire_1 : decode cX7_wouldFire 1 = .ok (.invokevirtual 161, 3) := by decide +kernel
theorem dX7_wouldFire_4 : decode cX7_wouldFire 4 = .ok (.iload_n 1, 1) := by decide +kernel
theorem dX7_wouldFire_5 : decode cX7_wouldFire 5 = .ok (.invokestatic 181, 3) := by decide +kernel
theorem dX7_wouldFire_8 : decode cX7_wouldFire 8 = .ok (.aload_n 0, 1) := by decide +kernel
theorem dX7_wouldFire_9 : decode cX7_wouldFire 9 = .ok (.getfield 25, 3) := by decide +kernel
theorem dX7_wouldFire_12 : decode cX7_wouldFire 12 = .ok (.getfield 164, 3) := by decide +kernel
theorem dX7_wouldFire_15 : decode cX7_wouldFire 15 = .ok (.aload_n 0, 1) := by decide +kernel
theorem dX7_wouldFire_16 : decode cX7_wouldFire 16 = .ok (.getfield 21, 3) := by decide +kernel
theorem dX7_wouldFire_19 : decode cX7_wouldFire 19 = .ok (.getfield 164, 3) := by decide +kernel
theorem dX7_wouldFire_22 : decode cX7_wouldFire 22 = .ok (.invokevirtual 218, 3) := by decide +kernel
theorem dX7_wouldFire_25 : decode cX7_wouldFire 25 = .ok (.aload_n 0, 1) := by decide +kernel
theorem dX7_wouldFire_26 : decode cX7_wouldFire 26 = .ok (.getfield 25, 3) := by decide +kernel
theorem dX7_wouldFire_29 : decode cX7_wouldFire 29 = .ok (.iload_n 1, 1) := by decide +kernel
theorem dX7_wouldFire_30 : decode cX7_wouldFire 30 = .ok (.invokevirtual 158, 3) := by decide +kernel
theorem dX7_wouldFire_33 : decode cX7_wouldFire 33 = .ok (.ireturn, 1) := by decide +kernel
theorem dX7_wouldBe_0 : decode cX7_wouldBe 0 = .ok (.aload_n 0, 1) := by decide +kernel
theorem dX7_wouldBe_1 : decode cX7_wouldBe 1 = .ok (.invokevirtual 161, 3) := by decide +kernel
theorem dX7_wouldBe_4 : decode cX7_wouldBe 4 = .ok (.iload_n 1, 1) := by decide +kernel
theorem dX7_wouldBe_5 : decode cX7_wouldBe 5 = .ok (.invokestatic 181, 3) := by decide +kernel
theorem dX7_wouldBe_8 : decode cX7_wouldBe 8 = .ok (.aload_n 0, 1) := by decide +kernel
theorem dX7_wouldBe_9 : decode cX7_wouldBe 9 = .ok (.getfield 25, 3) := by decide +kernel
theorem dX7_wouldBe_12 : decode cX7_wouldBe 12 = .ok (.getfield 164, 3) := by decide +kernel
theorem dX7_wouldBe_15 : decode cX7_wouldBe 15 = .ok (.aload_n 0, 1) := by decide +kernel
theorem dX7_wouldBe_16 : decode cX7_wouldBe 16 = .ok (.getfield 21, 3) := by decide +kernel
theorem dX7_wouldBe_19 : decode cX7_wouldBe 19 = .ok (.getfield 164, 3) := by decide +kernel
theorem dX7_wouldBe_22 : decode cX7_wouldBe 22 = .ok (.invokevirtual 218, 3) := by decide +kernel
theorem dX7_wouldBe_25 : decode cX7_wouldBe 25 = .ok (.aload_n 0, 1) := by decide +kernel
theorem dX7_wouldBe_26 : decode cX7_wouldBe 26 = .ok (.getfield 25, 3) := by decide +kernel
theorem dX7_wouldBe_29 : decode cX7_wouldBe 29 = .ok (.iload_n 1, 1) := by decide +kernel
theorem dX7_wouldBe_30 : decode cX7_wouldBe 30 = .ok (.invokevirtual 158, 3) := by decide +kernel
theorem dX7_wouldBe_33 : decode cX7_wouldBe 33 = .ok (.pop, 1) := by decide +kernel
theorem dX7_wouldBe_34 : decode cX7_wouldBe 34 = .ok (.aload_n 0, 1) := by decide +kernel
theorem dX7_wouldBe_35 : decode cX7_wouldBe 35 = .ok (.getfield 25, 3) := by decide +kernel
theorem dX7_wouldBe_38 : decode cX7_wouldBe 38 = .ok (.getfield 164, 3) := by decide +kernel
theorem dX7_wouldBe_41 : decode cX7_wouldBe 41 = .ok (.getfield 168, 3) := by decide +kernel
theorem dX7_wouldBe_44 : decode cX7_wouldBe 44 = .ok (.ireturn, 1) := by decide +kernel
theorem dX7_open_0 : decode cX7_open 0 = .ok (.aload_n 0, 1) := by decide +kernel
theorem dX7_open_1 : decode cX7_open 1 = .ok (.invokevirtual 161, 3) := by decide +kernel
theorem dX7_open_4 : decode cX7_open 4 = .ok (.iconst 0, 1) := by decide +kernel
theorem dX7_open_5 : decode cX7_open 5 = .ok (.istore_n 1, 1) := by decide +kernel
theorem dX7_open_6 : decode cX7_open 6 = .ok (.iconst 0, 1) := by decide +kernel
theorem dX7_open_7 : decode cX7_open 7 = .ok (.istore_n 2, 1) := by decide +kernel
theorem dX7_open_8 : decode cX7_open 8 = .ok (.iload_n 2, 1) := by decide +kernel
theorem dX7_open_9 : decode cX7_open 9 = .ok (.bipush 10, 2) := by decide +kernel
theorem dX7_open_11 : decode cX7_open 11 = .ok (.if_icmp .ge 27, 3) := by decide +kernel
theorem dX7_open_14 : decode cX7_open 14 = .ok (.aload_n 0, 1) := by decide +kernel
theorem dX7_open_15 : decode cX7_open 15 = .ok (.getfield 21, 3) := by decide +kernel
theorem dX7_open_18 : decode cX7_open 18 = .ok (.iload_n 2, 1) := by decide +kernel
theorem dX7_open_19 : decode cX7_open 19 = .ok (.invokevirtual 222, 3) := by decide +kernel
theorem dX7_open_22 : decode cX7_open 22 = .ok (.ifCond .eq 10, 3) := by decide +kernel
theorem dX7_open_25 : decode cX7_open 25 = .ok (.iload_n 1, 1) := by decide +kernel
theorem dX7_open_26 : decode cX7_open 26 = .ok (.iload_n 2, 1) := by decide +kernel
theorem dX7_open_27 : decode cX7_open 27 = .ok (.invokestatic 148, 3) := by decide +kernel
theorem dX7_open_30 : decode cX7_open 30 = .ok (.ior, 1) := by decide +kernel
theorem dX7_open_31 : decode cX7_open 31 = .ok (.istore_n 1, 1) := by decide +kernel
theorem dX7_open_32 : decode cX7_open 32 = .ok (.iinc 2 1, 3) := by decide +kernel
theorem dX7_open_35 : decode cX7_open 35 = .ok (.goto (-27), 3) := by decide +kernel
theorem dX7_open_38 : decode cX7_open 38 = .ok (.iload_n 1, 1) := by decide +kernel
theorem dX7_open_39 : decode cX7_open 39 = .ok (.ireturn, 1) := by decide +kernel
theorem dX7_rowTo_0 : decode cX7_rowTo 0 = .ok (.aload_n 0, 1) := by decide +kernel
theorem dX7_rowTo_1 : decode cX7_rowTo 1 = .ok (.invokevirtual 161, 3) := by decide +kernel
theorem dX7_rowTo_4 : decode cX7_rowTo 4 = .ok (.aload_n 0, 1) := by decide +kernel
theorem dX7_rowTo_5 : decode cX7_rowTo 5 = .ok (.iload_n 1, 1) := by decide +kernel
theorem dX7_rowTo_6 : decode cX7_rowTo 6 = .ok (.invokevirtual 48, 3) := by decide +kernel
theorem dX7_rowTo_9 : decode cX7_rowTo 9 = .ok (.iload_n 2, 1) := by decide +kernel
theorem dX7_rowTo_10 : decode cX7_rowTo 10 = .ok (.invokestatic 225, 3) := by decide +kernel
theorem dX7_rowTo_13 : decode cX7_rowTo 13 = .ok (.aload_n 0, 1) := by decide +kernel
theorem dX7_rowTo_14 : decode cX7_rowTo 14 = .ok (.getfield 33, 3) := by decide +kernel
theorem dX7_rowTo_17 : decode cX7_rowTo 17 = .ok (.aload_n 0, 1) := by decide +kernel
theorem dX7_rowTo_18 : decode cX7_rowTo 18 = .ok (.getfield 21, 3) := by decide +kernel
theorem dX7_rowTo_21 : decode cX7_rowTo 21 = .ok (.getfield 164, 3) := by decide +kernel
theorem dX7_rowTo_24 : decode cX7_rowTo 24 = .ok (.iload_n 1, 1) := by decide +kernel
theorem dX7_rowTo_25 : decode cX7_rowTo 25 = .ok (.iconst (-1), 1) := by decide +kernel
theorem dX7_rowTo_26 : decode cX7_rowTo 26 = .ok (.iload_n 2, 1) := by decide +kernel
theorem dX7_rowTo_27 : decode cX7_rowTo 27 = .ok (.invokevirtual 228, 3) := by decide +kernel
theorem dX7_rowTo_30 : decode cX7_rowTo 30 = .ok (.ireturn, 1) := by decide +kernel
theorem dX7_rowAt_0 : decode cX7_rowAt 0 = .ok (.iload_n 1, 1) := by decide +kernel
theorem dX7_rowAt_1 : decode cX7_rowAt 1 = .ok (.iconst 0, 1) := by decide +kernel
theorem dX7_rowAt_2 : decode cX7_rowAt 2 = .ok (.aload_n 0, 1) := by decide +kernel
theorem dX7_rowAt_3 : decode cX7_rowAt 3 = .ok (.getfield 33, 3) := by decide +kernel
theorem dX7_rowAt_6 : decode cX7_rowAt 6 = .ok (.getfield 232, 3) := by decide +kernel
theorem dX7_rowAt_9 : decode cX7_rowAt 9 = .ok (.iconst 1, 1) := by decide +kernel
theorem dX7_rowAt_10 : decode cX7_rowAt 10 = .ok (.isub, 1) := by decide +kernel
theorem dX7_rowAt_11 : decode cX7_rowAt 11 = .ok (.invokestatic 52, 3) := by decide +kernel
theorem dX7_rowAt_14 : decode cX7_rowAt 14 = .ok (.ifCond .eq 15, 3) := by decide +kernel
theorem dX7_rowAt_17 : decode cX7_rowAt 17 = .ok (.aload_n 0, 1) := by decide +kernel
theorem dX7_rowAt_18 : decode cX7_rowAt 18 = .ok (.getfield 33, 3) := by decide +kernel
theorem dX7_rowAt_21 : decode cX7_rowAt 21 = .ok (.getfield 235, 3) := by decide +kernel
theorem dX7_rowAt_24 : decode cX7_rowAt 24 = .ok (.iload_n 1, 1) := by decide +kernel
theorem dX7_rowAt_25 : decode cX7_rowAt 25 = .ok (.iaload, 1) := by decide +kernel
theorem dX7_rowAt_26 : decode cX7_rowAt 26 = .ok (.goto 4, 3) := by decide +kernel
theorem dX7_rowAt_29 : decode cX7_rowAt 29 = .ok (.iconst (-1), 1) := by decide +kernel
theorem dX7_rowAt_30 : decode cX7_rowAt 30 = .ok (.ireturn, 1) := by decide +kernel
theorem dX7_looked_0 : decode cX7_looked 0 = .ok (.aload_n 0, 1) := by decide +kernel
theorem dX7_looked_1 : decode cX7_looked 1 = .ok (.getfield 33, 3) := by decide +kernel
theorem dX7_looked_4 : decode cX7_looked 4 = .ok (.getfield 238, 3) := by decide +kernel
theorem dX7_looked_7 : decode cX7_looked 7 = .ok (.ireturn, 1) := by decide +kernel
theorem dX7_meanAge_0 : decode cX7_meanAge 0 = .ok (.aload_n 0, 1) := by decide +kernel
theorem dX7_meanAge_1 : decode cX7_meanAge 1 = .ok (.getfield 21, 3) := by decide +kernel
theorem dX7_meanAge_4 : decode cX7_meanAge 4 = .ok (.getfield 164, 3) := by decide +kernel
theorem dX7_meanAge_7 : decode cX7_meanAge 7 = .ok (.getfield 168, 3) := by decide +kernel
theorem dX7_meanAge_10 : decode cX7_meanAge 10 = .ok (.invokestatic 173, 3) := by decide +kernel
theorem dX7_meanAge_13 : decode cX7_meanAge 13 = .ok (.istore_n 1, 1) := by decide +kernel
theorem dX7_meanAge_14 : decode cX7_meanAge 14 = .ok (.iload_n 1, 1) := by decide +kernel
theorem dX7_meanAge_15 : decode cX7_meanAge 15 = .ok (.ifCond .ne 5, 3) := by decide +kernel
theorem dX7_meanAge_18 : decode cX7_meanAge 18 = .ok (.dconst 0, 1) := by decide +kernel
theorem dX7_meanAge_19 : decode cX7_meanAge 19 = .ok (.dreturn, 1) := by decide +kernel
theorem dX7_meanAge_20 : decode cX7_meanAge 20 = .ok (.iconst 0, 1) := by decide +kernel
theorem dX7_meanAge_21 : decode cX7_meanAge 21 = .ok (.istore_n 2, 1) := by decide +kernel
theorem dX7_meanAge_22 : decode cX7_meanAge 22 = .ok (.iconst 0, 1) := by decide +kernel
theorem dX7_meanAge_23 : decode cX7_meanAge 23 = .ok (.istore_n 3, 1) := by decide +kernel
theorem dX7_meanAge_24 : decode cX7_meanAge 24 = .ok (.iload_n 3, 1) := by decide +kernel
theorem dX7_meanAge_25 : decode cX7_meanAge 25 = .ok (.aload_n 0, 1) := by decide +kernel
theorem dX7_meanAge_26 : decode cX7_meanAge 26 = .ok (.getfield 10, 3) := by decide +kernel
theorem dX7_meanAge_29 : decode cX7_meanAge 29 = .ok (.getfield 41, 3) := by decide +kernel
theorem dX7_meanAge_32 : decode cX7_meanAge 32 = .ok (.if_icmp .ge 41, 3) := by decide +kernel
theorem dX7_meanAge_35 : decode cX7_meanAge 35 = .ok (.aload_n 0, 1) := by decide +kernel
theorem dX7_meanAge_36 : decode cX7_meanAge 36 = .ok (.getfield 21, 3) := by decide +kernel
theorem dX7_meanAge_39 : decode cX7_meanAge 39 = .ok (.getfield 164, 3) := by decide +kernel
theorem dX7_meanAge_42 : decode cX7_meanAge 42 = .ok (.getfield 168, 3) := by decide +kernel
theorem dX7_meanAge_45 : decode cX7_meanAge 45 = .ok (.iload_n 3, 1) := by decide +kernel
theorem dX7_meanAge_46 : decode cX7_meanAge 46 = .ok (.invokestatic 82, 3) := by decide +kernel
theorem dX7_meanAge_49 : decode cX7_meanAge 49 = .ok (.ifCond .eq 18, 3) := by decide +kernel
theorem dX7_meanAge_52 : decode cX7_meanAge 52 = .ok (.iload_n 2, 1) := by decide +kernel
theorem dX7_meanAge_53 : decode cX7_meanAge 53 = .ok (.aload_n 0, 1) := by decide +kernel
theorem dX7_meanAge_54 : decode cX7_meanAge 54 = .ok (.getfield 21, 3) := by decide +kernel
theorem dX7_meanAge_57 : decode cX7_meanAge 57 = .ok (.getfield 164, 3) := by decide +kernel
theorem dX7_meanAge_60 : decode cX7_meanAge 60 = .ok (.getfield 193, 3) := by decide +kernel
theorem dX7_meanAge_63 : decode cX7_meanAge 63 = .ok (.iload_n 3, 1) := by decide +kernel
theorem dX7_meanAge_64 : decode cX7_meanAge 64 = .ok (.iaload, 1) := by decide +kernel
theorem dX7_meanAge_65 : decode cX7_meanAge 65 = .ok (.iadd, 1) := by decide +kernel
theorem dX7_meanAge_66 : decode cX7_meanAge 66 = .ok (.istore_n 2, 1) := by decide +kernel
theorem dX7_meanAge_67 : decode cX7_meanAge 67 = .ok (.iinc 3 1, 3) := by decide +kernel
theorem dX7_meanAge_70 : decode cX7_meanAge 70 = .ok (.goto (-46), 3) := by decide +kernel
theorem dX7_meanAge_73 : decode cX7_meanAge 73 = .ok (.iload_n 2, 1) := by decide +kernel
theorem dX7_meanAge_74 : decode cX7_meanAge 74 = .ok (.i2d, 1) := by decide +kernel
theorem dX7_meanAge_75 : decode cX7_meanAge 75 = .ok (.iload_n 1, 1) := by decide +kernel
theorem dX7_meanAge_76 : decode cX7_meanAge 76 = .ok (.i2d, 1) := by decide +kernel
theorem dX7_meanAge_77 : decode cX7_meanAge 77 = .ok (.ddiv, 1) := by decide +kernel
theorem dX7_meanAge_78 : decode cX7_meanAge 78 = .ok (.dreturn, 1) := by decide +kernel
theorem dX7_digestOfStates_0 : decode cX7_digestOfStates 0 = .ok (.lload_n 1, 1) := by decide +kernel
theorem dX7_digestOfStates_1 : decode cX7_digestOfStates 1 = .ok (.lstore_n 3, 1) := by decide +kernel
theorem dX7_digestOfStates_2 : decode cX7_digestOfStates 2 = .ok (.aload_n 0, 1) := by decide +kernel
theorem dX7_digestOfStates_3 : decode cX7_digestOfStates 3 = .ok (.getfield 10, 3) := by decide +kernel
theorem dX7_digestOfStates_6 : decode cX7_digestOfStates 6 = .ok (.aload_n 0, 1) := by decide +kernel
theorem dX7_digestOfStates_7 : decode cX7_digestOfStates 7 = .ok (.getfield 21, 3) := by decide +kernel
theorem dX7_digestOfStates_10 : decode cX7_digestOfStates 10 = .ok (.getfield 164, 3) := by decide +kernel
theorem dX7_digestOfStates_13 : decode cX7_digestOfStates 13 = .ok (.getfield 168, 3) := by decide +kernel
theorem dX7_digestOfStates_16 : decode cX7_digestOfStates 16 = .ok (.invokevirtual 190, 3) := by decide +kernel
theorem dX7_digestOfStates_19 : decode cX7_digestOfStates 19 = .ok (.istore 5, 2) := by decide +kernel
theorem dX7_digestOfStates_21 : decode cX7_digestOfStates 21 = .ok (.iconst 0, 1) := by decide +kernel
theorem dX7_digestOfStates_22 : decode cX7_digestOfStates 22 = .ok (.istore 6, 2) := by decide +kernel
theorem dX7_digestOfStates_24 : decode cX7_digestOfStates 24 = .ok (.iload 6, 2) := by decide +kernel
theorem dX7_digestOfStates_26 : decode cX7_digestOfStates 26 = .ok (.aload_n 0, 1) := by decide +kernel
theorem dX7_digestOfStates_27 : decode cX7_digestOfStates 27 = .ok (.getfield 10, 3) := by decide +kernel
theorem dX7_digestOfStates_30 : decode cX7_digestOfStates 30 = .ok (.getfield 41, 3) := by decide +kernel
theorem dX7_digestOfStates_33 : decode cX7_digestOfStates 33 = .ok (.if_icmp .ge 107, 3) := by decide +kernel
theorem dX7_digestOfStates_36 : decode cX7_digestOfStates 36 = .ok (.iconst 0, 1) := by decide +kernel
theorem dX7_digestOfStates_37 : decode cX7_digestOfStates 37 = .ok (.istore 7, 2) := by decide +kernel
theorem dX7_digestOfStates_39 : decode cX7_digestOfStates 39 = .ok (.iload 7, 2) := by decide +kernel
theorem dX7_digestOfStates_41 : decode cX7_digestOfStates 41 = .ok (.iconst 4, 1) := by decide +kernel
theorem dX7_digestOfStates_42 : decode cX7_digestOfStates 42 = .ok (.if_icmp .ge 25, 3) := by decide +kernel
theorem dX7_digestOfStates_45 : decode cX7_digestOfStates 45 = .ok (.lload_n 3, 1) := by decide +kernel
theorem dX7_digestOfStates_46 : decode cX7_digestOfStates 46 = .ok (.ldc2_w 243, 3) := by decide +kernel
theorem dX7_digestOfStates_49 : decode cX7_digestOfStates 49 = .ok (.lmul, 1) := by decide +kernel
theorem dX7_digestOfStates_50 : decode cX7_digestOfStates 50 = .ok (.aload_n 0, 1) := by decide +kernel
theorem dX7_digestOfStates_51 : decode cX7_digestOfStates 51 = .ok (.iload 6, 2) := by decide +kernel
theorem dX7_digestOfStates_53 : decode cX7_digestOfStates 53 = .ok (.iload 7, 2) := by decide +kernel
theorem dX7_digestOfStates_55 : decode cX7_digestOfStates 55 = .ok (.invokevirtual 281, 3) := by decide +kernel
theorem dX7_digestOfStates_58 : decode cX7_digestOfStates 58 = .ok (.i2l, 1) := by decide +kernel
theorem dX7_digestOfStates_59 : decode cX7_digestOfStates 59 = .ok (.ladd, 1) := by decide +kernel
theorem dX7_digestOfStates_60 : decode cX7_digestOfStates 60 = .ok (.lstore_n 3, 1) := by decide +kernel
theorem dX7_digestOfStates_61 : decode cX7_digestOfStates 61 = .ok (.iinc 7 1, 3) := by decide +kernel
theorem dX7_digestOfStates_64 : decode cX7_digestOfStates 64 = .ok (.goto (-25), 3) := by decide +kernel
theorem dX7_digestOfStates_67 : decode cX7_digestOfStates 67 = .ok (.lload_n 3, 1) := by decide +kernel
theorem dX7_digestOfStates_68 : decode cX7_digestOfStates 68 = .ok (.ldc2_w 243, 3) := by decide +kernel
theorem dX7_digestOfStates_71 : decode cX7_digestOfStates 71 = .ok (.lmul, 1) := by decide +kernel
theorem dX7_digestOfStates_72 : decode cX7_digestOfStates 72 = .ok (.iload 5, 2) := by decide +kernel
theorem dX7_digestOfStates_74 : decode cX7_digestOfStates 74 = .ok (.iload 6, 2) := by decide +kernel
theorem dX7_digestOfStates_76 : decode cX7_digestOfStates 76 = .ok (.invokestatic 82, 3) := by decide +kernel
theorem dX7_digestOfStates_79 : decode cX7_digestOfStates 79 = .ok (.ifCond .eq 7, 3) := by decide +kernel
theorem dX7_digestOfStates_82 : decode cX7_digestOfStates 82 = .ok (.iconst 1, 1) := by decide +kernel
theorem dX7_digestOfStates_83 : decode cX7_digestOfStates 83 = .ok (.goto 4, 3) := by decide +kernel
theorem dX7_digestOfStates_86 : decode cX7_digestOfStates 86 = .ok (.iconst 0, 1) := by decide +kernel
theorem dX7_digestOfStates_87 : decode cX7_digestOfStates 87 = .ok (.i2l, 1) := by decide +kernel
theorem dX7_digestOfStates_88 : decode cX7_digestOfStates 88 = .ok (.ladd, 1) := by decide +kernel
theorem dX7_digestOfStates_89 : decode cX7_digestOfStates 89 = .ok (.lstore_n 3, 1) := by decide +kernel
theorem dX7_digestOfStates_90 : decode cX7_digestOfStates 90 = .ok (.lload_n 3, 1) := by decide +kernel
theorem dX7_digestOfStates_91 : decode cX7_digestOfStates 91 = .ok (.ldc2_w 243, 3) := by decide +kernel
theorem dX7_digestOfStates_94 : decode cX7_digestOfStates 94 = .ok (.lmul, 1) := by decide +kernel
theorem dX7_digestOfStates_95 : decode cX7_digestOfStates 95 = .ok (.aload_n 0, 1) := by decide +kernel
theorem dX7_digestOfStates_96 : decode cX7_digestOfStates 96 = .ok (.iload 6, 2) := by decide +kernel
theorem dX7_digestOfStates_98 : decode cX7_digestOfStates 98 = .ok (.invokevirtual 284, 3) := by decide +kernel
theorem dX7_digestOfStates_101 : decode cX7_digestOfStates 101 = .ok (.i2l, 1) := by decide +kernel
theorem dX7_digestOfStates_102 : decode cX7_digestOfStates 102 = .ok (.ladd, 1) := by decide +kernel
theorem dX7_digestOfStates_103 : decode cX7_digestOfStates 103 = .ok (.lstore_n 3, 1) := by decide +kernel
theorem dX7_digestOfStates_104 : decode cX7_digestOfStates 104 = .ok (.aload_n 0, 1) := by decide +kernel
theorem dX7_digestOfStates_105 : decode cX7_digestOfStates 105 = .ok (.getfield 10, 3) := by decide +kernel
theorem dX7_digestOfStates_108 : decode cX7_digestOfStates 108 = .ok (.getfield 56, 3) := by decide +kernel
theorem dX7_digestOfStates_111 : decode cX7_digestOfStates 111 = .ok (.iload 6, 2) := by decide +kernel
theorem dX7_digestOfStates_113 : decode cX7_digestOfStates 113 = .ok (.aaload, 1) := by decide +kernel
theorem dX7_digestOfStates_114 : decode cX7_digestOfStates 114 = .ok (.invokevirtual 92, 3) := by decide +kernel
theorem dX7_digestOfStates_117 : decode cX7_digestOfStates 117 = .ok (.ifCond .eq 17, 3) := by decide +kernel
theorem dX7_digestOfStates_120 : decode cX7_digestOfStates 120 = .ok (.lload_n 3, 1) := by decide +kernel
theorem dX7_digestOfStates_121 : decode cX7_digestOfStates 121 = .ok (.ldc2_w 243, 3) := by decide +kernel
theorem dX7_digestOfStates_124 : decode cX7_digestOfStates 124 = .ok (.lmul, 1) := by decide +kernel
theorem dX7_digestOfStates_125 : decode cX7_digestOfStates 125 = .ok (.aload_n 0, 1) := by decide +kernel
theorem dX7_digestOfStates_126 : decode cX7_digestOfStates 126 = .ok (.iload 6, 2) := by decide +kernel
theorem dX7_digestOfStates_128 : decode cX7_digestOfStates 128 = .ok (.invokevirtual 287, 3) := by decide +kernel
theorem dX7_digestOfStates_131 : decode cX7_digestOfStates 131 = .ok (.i2l, 1) := by decide +kernel
theorem dX7_digestOfStates_132 : decode cX7_digestOfStates 132 = .ok (.ladd, 1) := by decide +kernel
theorem dX7_digestOfStates_133 : decode cX7_digestOfStates 133 = .ok (.lstore_n 3, 1) := by decide +kernel
theorem dX7_digestOfStates_134 : decode cX7_digestOfStates 134 = .ok (.iinc 6 1, 3) := by decide +kernel
theorem dX7_digestOfStates_137 : decode cX7_digestOfStates 137 = .ok (.goto (-113), 3) := by decide +kernel
theorem dX7_digestOfStates_140 : decode cX7_digestOfStates 140 = .ok (.lload_n 3, 1) := by decide +kernel
theorem dX7_digestOfStates_141 : decode cX7_digestOfStates 141 = .ok (.lreturn, 1) := by decide +kernel
theorem dX7_digest_0 : decode cX7_digest 0 = .ok (.ldc2_w 241, 3) := by decide +kernel
theorem dX7_digest_3 : decode cX7_digest 3 = .ok (.lstore_n 1, 1) := by decide +kernel
theorem dX7_digest_4 : decode cX7_digest 4 = .ok (.lload_n 1, 1) := by decide +kernel
theorem dX7_digest_5 : decode cX7_digest 5 = .ok (.ldc2_w 243, 3) := by decide +kernel
theorem dX7_digest_8 : decode cX7_digest 8 = .ok (.lmul, 1) := by decide +kernel
theorem dX7_digest_9 : decode cX7_digest 9 = .ok (.aload_n 0, 1) := by decide +kernel
theorem dX7_digest_10 : decode cX7_digest 10 = .ok (.invokevirtual 245, 3) := by decide +kernel
theorem dX7_digest_13 : decode cX7_digest 13 = .ok (.i2l, 1) := by decide +kernel
theorem dX7_digest_14 : decode cX7_digest 14 = .ok (.ladd, 1) := by decide +kernel
theorem dX7_digest_15 : decode cX7_digest 15 = .ok (.lstore_n 1, 1) := by decide +kernel
theorem dX7_digest_16 : decode cX7_digest 16 = .ok (.lload_n 1, 1) := by decide +kernel
theorem dX7_digest_17 : decode cX7_digest 17 = .ok (.ldc2_w 243, 3) := by decide +kernel
theorem dX7_digest_20 : decode cX7_digest 20 = .ok (.lmul, 1) := by decide +kernel
theorem dX7_digest_21 : decode cX7_digest 21 = .ok (.aload_n 0, 1) := by decide +kernel
theorem dX7_digest_22 : decode cX7_digest 22 = .ok (.invokevirtual 248, 3) := by decide +kernel
theorem dX7_digest_25 : decode cX7_digest 25 = .ok (.i2l, 1) := by decide +kernel
theorem dX7_digest_26 : decode cX7_digest 26 = .ok (.ladd, 1) := by decide +kernel
theorem dX7_digest_27 : decode cX7_digest 27 = .ok (.lstore_n 1, 1) := by decide +kernel
theorem dX7_digest_28 : decode cX7_digest 28 = .ok (.lload_n 1, 1) := by decide +kernel
theorem dX7_digest_29 : decode cX7_digest 29 = .ok (.ldc2_w 243, 3) := by decide +kernel
theorem dX7_digest_32 : decode cX7_digest 32 = .ok (.lmul, 1) := by decide +kernel
theorem dX7_digest_33 : decode cX7_digest 33 = .ok (.aload_n 0, 1) := by decide +kernel
theorem dX7_digest_34 : decode cX7_digest 34 = .ok (.invokevirtual 250, 3) := by decide +kernel
theorem dX7_digest_37 : decode cX7_digest 37 = .ok (.ifCond .eq 7, 3) := by decide +kernel
theorem dX7_digest_40 : decode cX7_digest 40 = .ok (.iconst 1, 1) := by decide +kernel
theorem dX7_digest_41 : decode cX7_digest 41 = .ok (.goto 4, 3) := by decide +kernel
theorem dX7_digest_44 : decode cX7_digest 44 = .ok (.iconst 0, 1) := by decide +kernel
theorem dX7_digest_45 : decode cX7_digest 45 = .ok (.i2l, 1) := by decide +kernel
theorem dX7_digest_46 : decode cX7_digest 46 = .ok (.ladd, 1) := by decide +kernel
theorem dX7_digest_47 : decode cX7_digest 47 = .ok (.lstore_n 1, 1) := by decide +kernel
theorem dX7_digest_48 : decode cX7_digest 48 = .ok (.lload_n 1, 1) := by decide +kernel
theorem dX7_digest_49 : decode cX7_digest 49 = .ok (.ldc2_w 243, 3) := by decide +kernel
theorem dX7_digest_52 : decode cX7_digest 52 = .ok (.lmul, 1) := by decide +kernel
theorem dX7_digest_53 : decode cX7_digest 53 = .ok (.aload_n 0, 1) := by decide +kernel
theorem dX7_digest_54 : decode cX7_digest 54 = .ok (.invokevirtual 253, 3) := by decide +kernel
theorem dX7_digest_57 : decode cX7_digest 57 = .ok (.i2l, 1) := by decide +kernel
theorem dX7_digest_58 : decode cX7_digest 58 = .ok (.ladd, 1) := by decide +kernel
theorem dX7_digest_59 : decode cX7_digest 59 = .ok (.lstore_n 1, 1) := by decide +kernel
theorem dX7_digest_60 : decode cX7_digest 60 = .ok (.lload_n 1, 1) := by decide +kernel
theorem dX7_digest_61 : decode cX7_digest 61 = .ok (.ldc2_w 243, 3) := by decide +kernel
theorem dX7_digest_64 : decode cX7_digest 64 = .ok (.lmul, 1) := by decide +kernel
theorem dX7_digest_65 : decode cX7_digest 65 = .ok (.aload_n 0, 1) := by decide +kernel
theorem dX7_digest_66 : decode cX7_digest 66 = .ok (.invokevirtual 255, 3) := by decide +kernel
theorem dX7_digest_69 : decode cX7_digest 69 = .ok (.ifCond .eq 7, 3) := by decide +kernel
theorem dX7_digest_72 : decode cX7_digest 72 = .ok (.iconst 1, 1) := by decide +kernel
theorem dX7_digest_73 : decode cX7_digest 73 = .ok (.goto 4, 3) := by decide +kernel
theorem dX7_digest_76 : decode cX7_digest 76 = .ok (.iconst 0, 1) := by decide +kernel
theorem dX7_digest_77 : decode cX7_digest 77 = .ok (.i2l, 1) := by decide +kernel
theorem dX7_digest_78 : decode cX7_digest 78 = .ok (.ladd, 1) := by decide +kernel
theorem dX7_digest_79 : decode cX7_digest 79 = .ok (.lstore_n 1, 1) := by decide +kernel
theorem dX7_digest_80 : decode cX7_digest 80 = .ok (.lload_n 1, 1) := by decide +kernel
theorem dX7_digest_81 : decode cX7_digest 81 = .ok (.ldc2_w 243, 3) := by decide +kernel
theorem dX7_digest_84 : decode cX7_digest 84 = .ok (.lmul, 1) := by decide +kernel
theorem dX7_digest_85 : decode cX7_digest 85 = .ok (.aload_n 0, 1) := by decide +kernel
theorem dX7_digest_86 : decode cX7_digest 86 = .ok (.invokevirtual 258, 3) := by decide +kernel
theorem dX7_digest_89 : decode cX7_digest 89 = .ok (.i2l, 1) := by decide +kernel
theorem dX7_digest_90 : decode cX7_digest 90 = .ok (.ladd, 1) := by decide +kernel
theorem dX7_digest_91 : decode cX7_digest 91 = .ok (.lstore_n 1, 1) := by decide +kernel
theorem dX7_digest_92 : decode cX7_digest 92 = .ok (.lload_n 1, 1) := by decide +kernel
theorem dX7_digest_93 : decode cX7_digest 93 = .ok (.ldc2_w 243, 3) := by decide +kernel
theorem dX7_digest_96 : decode cX7_digest 96 = .ok (.lmul, 1) := by decide +kernel
theorem dX7_digest_97 : decode cX7_digest 97 = .ok (.aload_n 0, 1) := by decide +kernel
theorem dX7_digest_98 : decode cX7_digest 98 = .ok (.invokevirtual 260, 3) := by decide +kernel
theorem dX7_digest_101 : decode cX7_digest 101 = .ok (.i2l, 1) := by decide +kernel
theorem dX7_digest_102 : decode cX7_digest 102 = .ok (.ladd, 1) := by decide +kernel
theorem dX7_digest_103 : decode cX7_digest 103 = .ok (.lstore_n 1, 1) := by decide +kernel
theorem dX7_digest_104 : decode cX7_digest 104 = .ok (.lload_n 1, 1) := by decide +kernel
theorem dX7_digest_105 : decode cX7_digest 105 = .ok (.ldc2_w 243, 3) := by decide +kernel
theorem dX7_digest_108 : decode cX7_digest 108 = .ok (.lmul, 1) := by decide +kernel
theorem dX7_digest_109 : decode cX7_digest 109 = .ok (.aload_n 0, 1) := by decide +kernel
theorem dX7_digest_110 : decode cX7_digest 110 = .ok (.invokevirtual 263, 3) := by decide +kernel
theorem dX7_digest_113 : decode cX7_digest 113 = .ok (.i2l, 1) := by decide +kernel
theorem dX7_digest_114 : decode cX7_digest 114 = .ok (.ladd, 1) := by decide +kernel
theorem dX7_digest_115 : decode cX7_digest 115 = .ok (.lstore_n 1, 1) := by decide +kernel
theorem dX7_digest_116 : decode cX7_digest 116 = .ok (.lload_n 1, 1) := by decide +kernel
theorem dX7_digest_117 : decode cX7_digest 117 = .ok (.ldc2_w 243, 3) := by decide +kernel
theorem dX7_digest_120 : decode cX7_digest 120 = .ok (.lmul, 1) := by decide +kernel
theorem dX7_digest_121 : decode cX7_digest 121 = .ok (.aload_n 0, 1) := by decide +kernel
theorem dX7_digest_122 : decode cX7_digest 122 = .ok (.invokevirtual 265, 3) := by decide +kernel
theorem dX7_digest_125 : decode cX7_digest 125 = .ok (.i2l, 1) := by decide +kernel
theorem dX7_digest_126 : decode cX7_digest 126 = .ok (.ladd, 1) := by decide +kernel
theorem dX7_digest_127 : decode cX7_digest 127 = .ok (.lstore_n 1, 1) := by decide +kernel
theorem dX7_digest_128 : decode cX7_digest 128 = .ok (.lload_n 1, 1) := by decide +kernel
theorem dX7_digest_129 : decode cX7_digest 129 = .ok (.ldc2_w 243, 3) := by decide +kernel
theorem dX7_digest_132 : decode cX7_digest 132 = .ok (.lmul, 1) := by decide +kernel
theorem dX7_digest_133 : decode cX7_digest 133 = .ok (.aload_n 0, 1) := by decide +kernel
theorem dX7_digest_134 : decode cX7_digest 134 = .ok (.invokevirtual 267, 3) := by decide +kernel
theorem dX7_digest_137 : decode cX7_digest 137 = .ok (.i2l, 1) := by decide +kernel
theorem dX7_digest_138 : decode cX7_digest 138 = .ok (.ladd, 1) := by decide +kernel
theorem dX7_digest_139 : decode cX7_digest 139 = .ok (.lstore_n 1, 1) := by decide +kernel
theorem dX7_digest_140 : decode cX7_digest 140 = .ok (.aload_n 0, 1) := by decide +kernel
theorem dX7_digest_141 : decode cX7_digest 141 = .ok (.lload_n 1, 1) := by decide +kernel
theorem dX7_digest_142 : decode cX7_digest 142 = .ok (.invokevirtual 270, 3) := by decide +kernel
theorem dX7_digest_145 : decode cX7_digest 145 = .ok (.lstore_n 1, 1) := by decide +kernel
theorem dX7_digest_146 : decode cX7_digest 146 = .ok (.iconst 0, 1) := by decide +kernel
theorem dX7_digest_147 : decode cX7_digest 147 = .ok (.istore_n 3, 1) := by decide +kernel
theorem dX7_digest_148 : decode cX7_digest 148 = .ok (.iload_n 3, 1) := by decide +kernel
theorem dX7_digest_149 : decode cX7_digest 149 = .ok (.iconst 4, 1) := by decide +kernel
theorem dX7_digest_150 : decode cX7_digest 150 = .ok (.if_icmp .ge 22, 3) := by decide +kernel
theorem dX7_digest_153 : decode cX7_digest 153 = .ok (.lload_n 1, 1) := by decide +kernel
theorem dX7_digest_154 : decode cX7_digest 154 = .ok (.ldc2_w 243, 3) := by decide +kernel
theorem dX7_digest_157 : decode cX7_digest 157 = .ok (.lmul, 1) := by decide +kernel
theorem dX7_digest_158 : decode cX7_digest 158 = .ok (.aload_n 0, 1) := by decide +kernel
theorem dX7_digest_159 : decode cX7_digest 159 = .ok (.iload_n 3, 1) := by decide +kernel
theorem dX7_digest_160 : decode cX7_digest 160 = .ok (.invokevirtual 274, 3) := by decide +kernel
theorem dX7_digest_163 : decode cX7_digest 163 = .ok (.i2l, 1) := by decide +kernel
theorem dX7_digest_164 : decode cX7_digest 164 = .ok (.ladd, 1) := by decide +kernel
theorem dX7_digest_165 : decode cX7_digest 165 = .ok (.lstore_n 1, 1) := by decide +kernel
theorem dX7_digest_166 : decode cX7_digest 166 = .ok (.iinc 3 1, 3) := by decide +kernel
theorem dX7_digest_169 : decode cX7_digest 169 = .ok (.goto (-21), 3) := by decide +kernel
theorem dX7_digest_172 : decode cX7_digest 172 = .ok (.iconst 0, 1) := by decide +kernel
theorem dX7_digest_173 : decode cX7_digest 173 = .ok (.istore_n 3, 1) := by decide +kernel
theorem dX7_digest_174 : decode cX7_digest 174 = .ok (.iload_n 3, 1) := by decide +kernel
theorem dX7_digest_175 : decode cX7_digest 175 = .ok (.aload_n 0, 1) := by decide +kernel
theorem dX7_digest_176 : decode cX7_digest 176 = .ok (.getfield 10, 3) := by decide +kernel
theorem dX7_digest_179 : decode cX7_digest 179 = .ok (.getfield 111, 3) := by decide +kernel
theorem dX7_digest_182 : decode cX7_digest 182 = .ok (.if_icmp .ge 22, 3) := by decide +kernel
theorem dX7_digest_185 : decode cX7_digest 185 = .ok (.lload_n 1, 1) := by decide +kernel
theorem dX7_digest_186 : decode cX7_digest 186 = .ok (.ldc2_w 243, 3) := by decide +kernel
theorem dX7_digest_189 : decode cX7_digest 189 = .ok (.lmul, 1) := by decide +kernel
theorem dX7_digest_190 : decode cX7_digest 190 = .ok (.aload_n 0, 1) := by decide +kernel
theorem dX7_digest_191 : decode cX7_digest 191 = .ok (.iload_n 3, 1) := by decide +kernel
theorem dX7_digest_192 : decode cX7_digest 192 = .ok (.invokevirtual 276, 3) := by decide +kernel
theorem dX7_digest_195 : decode cX7_digest 195 = .ok (.i2l, 1) := by decide +kernel
theorem dX7_digest_196 : decode cX7_digest 196 = .ok (.ladd, 1) := by decide +kernel
theorem dX7_digest_197 : decode cX7_digest 197 = .ok (.lstore_n 1, 1) := by decide +kernel
theorem dX7_digest_198 : decode cX7_digest 198 = .ok (.iinc 3 1, 3) := by decide +kernel
theorem dX7_digest_201 : decode cX7_digest 201 = .ok (.goto (-27), 3) := by decide +kernel
theorem dX7_digest_204 : decode cX7_digest 204 = .ok (.iconst 0, 1) := by decide +kernel
theorem dX7_digest_205 : decode cX7_digest 205 = .ok (.istore_n 3, 1) := by decide +kernel
theorem dX7_digest_206 : decode cX7_digest 206 = .ok (.iload_n 3, 1) := by decide +kernel
theorem dX7_digest_207 : decode cX7_digest 207 = .ok (.bipush 8, 2) := by decide +kernel
theorem dX7_digest_209 : decode cX7_digest 209 = .ok (.if_icmp .ge 22, 3) := by decide +kernel
theorem dX7_digest_212 : decode cX7_digest 212 = .ok (.lload_n 1, 1) := by decide +kernel
theorem dX7_digest_213 : decode cX7_digest 213 = .ok (.ldc2_w 243, 3) := by decide +kernel
theorem dX7_digest_216 : decode cX7_digest 216 = .ok (.lmul, 1) := by decide +kernel
theorem dX7_digest_217 : decode cX7_digest 217 = .ok (.aload_n 0, 1) := by decide +kernel
theorem dX7_digest_218 : decode cX7_digest 218 = .ok (.iload_n 3, 1) := by decide +kernel
theorem dX7_digest_219 : decode cX7_digest 219 = .ok (.invokevirtual 278, 3) := by decide +kernel
theorem dX7_digest_222 : decode cX7_digest 222 = .ok (.i2l, 1) := by decide +kernel
theorem dX7_digest_223 : decode cX7_digest 223 = .ok (.ladd, 1) := by decide +kernel
theorem dX7_digest_224 : decode cX7_digest 224 = .ok (.lstore_n 1, 1) := by decide +kernel
theorem dX7_digest_225 : decode cX7_digest 225 = .ok (.iinc 3 1, 3) := by decide +kernel
theorem dX7_digest_228 : decode cX7_digest 228 = .ok (.goto (-22), 3) := by decide +kernel
theorem dX7_digest_231 : decode cX7_digest 231 = .ok (.lload_n 1, 1) := by decide +kernel
theorem dX7_digest_232 : decode cX7_digest 232 = .ok (.lreturn, 1) := by decide +kernel
end
section
/-! ROWS FOR THE LAW'S OWN METHODS: the world is B (the engine's objects, or nothing) and behind it a written list Y of cells: int arrays, and arrays of int arrays (class cA 4). -/
def pt_AA (cA : Nat → ClassId) (U : State) : Prop := ArrOfT U (cA 4) (.array .int) ∧ U.vm.findClass ("[" ++ (FieldType.array .int).toString) = some (cA 4) ∧ ∃ kA : Class, U.vm.classes[cA 4]? = some kA ∧ kA.kind = .array (cA 0) (.array .int)
theorem pt_AA.moved {cA : Nat → ClassId} {u U : State} (hvm : u.vm.Alike U.vm) (h : pt_AA cA u) : pt_AA cA U := by
  obtain ⟨h1, h2, kA, h3, h4⟩ := h
  obtain ⟨k', hk', he⟩ := hvm.2.2 _ _ h3
  exact ⟨arrOfT_moved hvm h1, by rw [hvm.findClass]; exact h2, k', hk', by rw [he]; exact h4⟩
theorem pt_xat {B Y : va_W} {i : Nat} {q : Nat × va_E} (h : Y[i]? = some q) : (B ++ Y)[B.length + i]? = some q := by
  rw [List.getElem?_append_right (by omega), Nat.add_sub_cancel_left]
  exact h
theorem pt_xset {B Y : va_W} {i : Nat} (q : Nat × va_E) : (B ++ Y).set (B.length + i) q = B ++ Y.set i q := by
  rw [List.set_append_right _ _ (by omega), Nat.add_sub_cancel_left]
theorem pt_xP {D : va_G} {cl : List vw_C} {B Y : va_W} {H : Heap} : va_P D cl (B ++ Y) H ↔ va_P D cl B H ∧ va_P D cl Y H := by
  constructor
  · intro h
    refine ⟨fun k q hk => h k q ?_, fun k q hk => h (B.length + k) q (pt_xat hk)⟩
    rw [List.getElem?_append_left (List.getElem?_eq_some_iff.mp hk).1]
    exact hk
  · intro h
    exact h.1.app h.2
theorem pt_xD {A : Nat → Prop} {B Y : va_W} : va_D A (B ++ Y) ↔ va_D A B ∧ va_D A Y ∧ ∀ (i j : Nat) (p q : Nat × va_E), B[i]? = some p → Y[j]? = some q → p.1 ≠ q.1 := by
  constructor
  · intro h
    have hB : ∀ {i : Nat} {p : Nat × va_E}, B[i]? = some p → (B ++ Y)[i]? = some p := fun {i p} hi => by
      rw [List.getElem?_append_left (List.getElem?_eq_some_iff.mp hi).1]
      exact hi
    refine ⟨⟨fun i j p q hi hj e => h.1 i j p q (hB hi) (hB hj) e, fun k q hk => h.2 k q (hB hk)⟩, ⟨fun i j p q hi hj e => ?_, fun k q hk => h.2 _ q (pt_xat hk)⟩, fun i j p q hi hj e => ?_⟩
    · have := h.1 _ _ p q (pt_xat hi) (pt_xat hj) e
      omega
    · have h1 := h.1 _ _ p q (hB hi) (pt_xat hj) e
      have h2 := (List.getElem?_eq_some_iff.mp hi).1
      omega
  · intro h
    exact h.1.app h.2.1 h.2.2
theorem pt_xpick {D : va_G} {cl : List vw_C} {B Y Y' : va_W} {H : Heap} (hP : va_P D cl (B ++ Y) H) (ks : List Nat) (hs : ks.map (fun i => Y[i]?) = Y'.map some) : va_P D cl (B ++ Y') H := by
  obtain ⟨h1, h2⟩ := pt_xP.mp hP
  refine pt_xP.mpr ⟨h1, fun k q hk => ?_⟩
  have h3 : (ks.map (fun i => Y[i]?))[k]? = some (some q) := by rw [hs, List.getElem?_map, hk]; rfl
  rw [List.getElem?_map] at h3
  cases hi : ks[k]? with
  | none => rw [hi] at h3; cases h3
  | some i => rw [hi] at h3; exact h2 i q (Option.some.inj h3)
theorem pt_xpickD {A : Nat → Prop} {B Y Y' : va_W} (hD : va_D A (B ++ Y)) (ks : List Nat) (hn : va_nd ks = true) (hs : ks.map (fun i => Y[i]?) = Y'.map some) : va_D A (B ++ Y') := by
  obtain ⟨h1, h2, h3⟩ := pt_xD.mp hD
  refine pt_xD.mpr ⟨h1, h2.sub ks hn hs, fun i k p q hi hk => ?_⟩
  have h4 : (ks.map (fun i => Y[i]?))[k]? = some (some q) := by rw [hs, List.getElem?_map, hk]; rfl
  rw [List.getElem?_map] at h4
  cases hj : ks[k]? with
  | none => rw [hj] at h4; cases h4
  | some j => rw [hj] at h4; exact h3 i j p q hi (Option.some.inj h4)
/-- the same addresses: the same is apart -/
theorem pt_xsame {A : Nat → Prop} {B B1 Y : va_W} (hD : va_D A (B ++ Y)) (hl : B1.length = B.length) (ha : ∀ (i : Nat) (q : Nat × va_E), B1[i]? = some q → ∃ p, B[i]? = some p ∧ p.1 = q.1) : va_D A (B1 ++ Y) := by
  obtain ⟨h1, h2, h3⟩ := pt_xD.mp hD
  refine pt_xD.mpr ⟨⟨fun i j p q hi hj e => ?_, fun k q hk => ?_⟩, h2, fun i j p q hi hj => ?_⟩
  · obtain ⟨p', a1, a2⟩ := ha i p hi
    obtain ⟨q', b1, b2⟩ := ha j q hj
    exact h1.1 i j p' q' a1 b1 (a2.trans (e.trans b2.symm))
  · obtain ⟨q', b1, b2⟩ := ha k q hk
    rw [← b2]; exact h1.2 k q' b1
  · obtain ⟨p', a1, a2⟩ := ha i p hi
    rw [← a2]
    exact h3 i j p' q a1 hj
theorem pt_W_len {cA : Nat → ClassId} {ad : Nat → Nat} {M : pt_M} : (pt_W cA ad M).length = 387 := by simp [pt_W]
theorem pt_W_inv {cA : Nat → ClassId} {ad : Nat → Nat} {M : pt_M} {k : Nat} {q : Nat × va_E} (h : (pt_W cA ad M)[k]? = some q) : k < 387 ∧ q.1 = ad k := by
  have hk : k < 387 := by
    have := (List.getElem?_eq_some_iff.mp h).1
    rwa [pt_W_len] at this
  rw [pt_W_get hk] at h
  cases h
  exact ⟨hk, rfl⟩
theorem pt_xeng {A : Nat → Prop} {cA : Nat → ClassId} {ad : Nat → Nat} {M M1 : pt_M} {Y : va_W} (hD : va_D A (pt_W cA ad M ++ Y)) : va_D A (pt_W cA ad M1 ++ Y) := by
  refine pt_xsame hD (by rw [pt_W_len, pt_W_len]) (fun i q h => ?_)
  obtain ⟨h1, h2⟩ := pt_W_inv h
  exact ⟨_, pt_W_get h1, h2.symm⟩
theorem pt_xI {A : Nat → Prop} {cA : Nat → ClassId} {ad : Nat → Nat} {M : pt_M} {Y : va_W} (hD : va_D A (pt_W cA ad M ++ Y)) : pt_I ad := by
  intro i j hi hj e
  exact (pt_xD.mp hD).1.1 i j _ _ (pt_W_get hi) (pt_W_get hj) e
theorem pt_xA {A : Nat → Prop} {cA : Nat → ClassId} {ad : Nat → Nat} {M : pt_M} {Y : va_W} (hD : va_D A (pt_W cA ad M ++ Y)) {sz : Nat} (hA : ∀ q, sz ≤ q → A q) : ∀ q, pt_fr ad sz q → A q := by
  intro q h
  rcases h with ⟨k, hk, rfl⟩ | h
  · exact (pt_xD.mp hD).1.2 k _ (pt_W_get hk)
  · exact hA q h
/-- behind a call that changed the engine's objects alone -/
theorem pt_xback {A : Nat → Prop} {D : va_G} {cA : Nat → ClassId} {ad : Nat → Nat} {M M1 : pt_M} {Y : va_W} {H H1 : Heap} (hP : va_P D pt_cl (pt_W cA ad M ++ Y) H) (hD : va_D A (pt_W cA ad M ++ Y)) (hP1 : va_P D pt_cl (pt_W cA ad M1) H1) (ho : ∀ q : Nat, q < H.size → ¬ pt_fr ad H.size q → H1[q]? = H[q]?) : va_P D pt_cl (pt_W cA ad M1 ++ Y) H1 := by
  obtain ⟨h1, h2⟩ := pt_xP.mp hP
  refine pt_xP.mpr ⟨hP1, fun k q hk => ?_⟩
  have hl := (h2 k q hk).lt
  refine (h2 k q hk).kept (ho q.1 hl (fun h => ?_))
  rcases h with ⟨j, hj, e⟩ | h
  · exact (pt_xD.mp hD).2.2 j k _ q (pt_W_get hj) hk e.symm
  · omega
theorem pt_xkeep {D : va_G} {cl : List vw_C} {ws : va_W} {H H1 : Heap} (hP : va_P D cl ws H) (ho : ∀ q : Nat, q < H.size → H1[q]? = H[q]?) : va_P D cl ws H1 := fun k q hk => (hP k q hk).kept (ho q.1 (hP k q hk).lt)
theorem pt_asg (vm : Vm) (c : ClassId) : vm.assignable c c = true := by
  show Vm.assignableAux vm (255 + 1) c c = true
  rw [Vm.assignableAux]
  simp only [beq_self_eq_true, Bool.true_or]
section PTX
variable {p : Program} {l : Launch} {e : Env} {R : Room} {s : State} {m : MethodId} {args : Array Value} {below : List Frame} {meth : Method} {c : Code} {H : Heap} {locs : List Loc} {cells slots : Nat} {Q : State → Prop}
variable {cc : ByteArray} {pc nL : Nat} {ls : Array Slot} {rest st : List Value} {D : va_G} {A : Nat → Prop} {cA : Nat → ClassId} {B Y : va_W} {H0 : Heap} {own : String} {a : Nat}
theorem pt_xild (F : pt_F p m c cc nL s args own D cA) (hP : va_P D pt_cl (B ++ Y) H) (i : Nat) {n : Nat} {f : Nat → Int32} (hy : Y[i]? = some (a, .inl (cA 0, n, .inl f))) {j : Int32} (hin : vp_in j n) (hdg : decode cc pc = .ok (.iaload, 1))
    (kk : W p l e R s m args below meth c H locs cells slots Q (F0 m (pc + 1) ls (.int (f j.toNatClampNeg) :: rest))) : W p l e R s m args below meth c H locs cells slots Q (F0 m pc ls (.int j :: .ref a :: rest)) :=
  va_iald (D := D) F.1.1 F.1.2.1 F.2 hP (B.length + i) 0 (pt_xat hy) rfl hin hdg kk
theorem pt_xist (F : pt_F p m c cc nL s args own D cA) (hP : va_P D pt_cl (B ++ Y) H) (hD : va_D A (B ++ Y)) (hS : va_S A H0 H locs) (i : Nat) {n : Nat} {f : Nat → Int32} (hy : Y[i]? = some (a, .inl (cA 0, n, .inl f))) {j x : Int32} (hin : vp_in j n) (hdg : decode cc pc = .ok (.iastore, 1)) {Y' : (Nat → Int32) → va_W} (hY : ∀ f1, Y.set i (a, .inl (cA 0, n, .inl f1)) = Y' f1)
    (kk : ∀ (f1 : Nat → Int32) (H1 : Heap) (locs1 : List Loc), f1 = upd f j.toNatClampNeg x → va_P D pt_cl (B ++ Y' f1) H1 → va_D A (B ++ Y' f1) → va_S A H0 H1 locs1 → W p l e R s m args below meth c H1 locs1 cells slots Q (F0 m (pc + 1) ls rest)) : W p l e R s m args below meth c H locs cells slots Q (F0 m pc ls (.int x :: .int j :: .ref a :: rest)) := by
  refine va_iast (D := D) F.1.1 F.1.2.1 F.2 hP hD hS (B.length + i) 0 (pt_xat hy) rfl hin hdg (fun H1 locs1 g1 g2 g3 => ?_)
  rw [pt_xset, hY] at g1 g2
  exact kk _ H1 locs1 rfl g1 g2 g3
theorem pt_xlen (F : pt_F p m c cc nL s args own D cA) (hP : va_P D pt_cl (B ++ Y) H) (i : Nat) {n : Nat} {f : Nat → Int32} (hy : Y[i]? = some (a, .inl (cA 0, n, .inl f))) (hdg : decode cc pc = .ok (.arraylength, 1))
    (kk : W p l e R s m args below meth c H locs cells slots Q (F0 m (pc + 1) ls (.int (Int32.ofNat n) :: rest))) : W p l e R s m args below meth c H locs cells slots Q (F0 m pc ls (.ref a :: rest)) :=
  va_alen (D := D) F.1.1 F.1.2.1 F.2 hP (B.length + i) 0 (x := (n, .inl f)) (pt_xat hy) rfl rfl hdg kk
theorem pt_xnew (F : pt_F p m c cc nL s args own D cA) (hP : va_P D pt_cl (B ++ Y) H) (hD : va_D A (B ++ Y)) (hS : va_S A H0 H locs) (hA : ∀ q, H0.size ≤ q → A q) (harr : Cond.arrayClass .int ∈ lw_all) {n : Int32} {N : Nat} (hn : ¬ n < 0) (hN : n.toNatClampNeg = N) (hb : N ≤ 64) (hcells : cells + 1 ≤ R.cells) (hslots : slots + N ≤ R.slots) (hdg : decode cc pc = .ok (.newarray .int, 2))
    (kk : ∀ (q : Nat) (H1 : Heap), va_P D pt_cl (B ++ (Y ++ [(q, .inl (cA 0, N, .inl (fun _ => 0)))])) H1 → va_D A (B ++ (Y ++ [(q, .inl (cA 0, N, .inl (fun _ => 0)))])) → va_S A H0 H1 locs →
      W p l e R s m args below meth c H1 locs (cells + 1) (slots + N) Q (F0 m (pc + 2) ls (.ref q :: rest))) : W p l e R s m args below meth c H locs cells slots Q (F0 m pc ls (.int n :: rest)) := by
  refine va_newa (D := D) (ty := .int) (atype := .int) (a0 := (N, .inl (fun _ => 0))) F.1.1 F.1.2.1 (F.1.2.2.2.2 _ harr) rfl F.2 hP hD hS hA (fun _ => rfl) hn hN (by show N * 4 ≤ 536870912; omega) hcells hslots hdg (fun q cB H1 g1 g2 g3 g4 => ?_)
  have e1 := (g1.2 4 (cB, .int) rfl).2
  have e2 := (F.2.2 0 (cA 0, .int) rfl).2
  have e : cB = cA 0 := Option.some.inj (e1.symm.trans e2)
  subst e
  rw [List.append_assoc] at g2 g3
  exact kk q H1 g2 g3 g4
theorem pt_xnewA (F : pt_F p m c cc nL s args own D cA) (hAA : pt_AA cA s) (hP : va_P D pt_cl (B ++ Y) H) (hD : va_D A (B ++ Y)) (hS : va_S A H0 H locs) (hA : ∀ q, H0.size ≤ q → A q) {index : Nat} (hlink : Cond.classLink own index "[I" ∈ lw_all) (harr : (Cond.arrayOver (.array .int)).before args s = true) {n : Int32} {N : Nat} (hn : ¬ n < 0) (hN : n.toNatClampNeg = N) (hb : N ≤ 64) (hcells : cells + 1 ≤ R.cells) (hslots : slots + N ≤ R.slots) (hdg : decode cc pc = .ok (.anewarray index, 3))
    (kk : ∀ (q : Nat) (H1 : Heap), va_P D pt_cl (B ++ (Y ++ [(q, .inl (cA 4, N, .inr (.inr (.inr (.inr (fun _ => none))))))])) H1 → va_D A (B ++ (Y ++ [(q, .inl (cA 4, N, .inr (.inr (.inr (.inr (fun _ => none))))))])) → va_S A H0 H1 locs →
      W p l e R s m args below meth c H1 locs (cells + 1) (slots + N) Q (F0 m (pc + 3) ls (.ref q :: rest))) : W p l e R s m args below meth c H locs cells slots Q (F0 m pc ls (.int n :: rest)) := by
  subst hN
  refine W.anewA (t := .int) F.1.1 F.1.2.1 F.1.2.2.2.1 (F.1.2.2.2.2 _ hlink) harr rfl hdg rfl hn (by omega) hcells hslots fun cB kA comp f1 f2 f3 f4 => ?_
  have e : cB = cA 4 := Option.some.inj (f1.symm.trans hAA.2.1)
  subst e
  generalize hH1 : H.push ({ cls := cA 4, slots := Array.replicate n.toNatClampNeg .null, vm := .none } : Cell) = H1
  have z1 : H1.size = H.size + 1 := by rw [← hH1, Array.size_push]
  have e1 : H1[H.size]? = some (arrV (cA 4) n.toNatClampNeg (fun _ => .null)) := by rw [← hH1, Array.getElem?_push_size, ← arrV_new]
  have o1 : ∀ q : Nat, q < H.size → H1[q]? = H[q]? := fun q hq => by rw [← hH1, Array.getElem?_push, if_neg (Nat.ne_of_lt hq)]
  have hPk : va_P D pt_cl (B ++ Y) H1 := pt_xkeep hP o1
  have hPn : va_P D pt_cl ((B ++ Y) ++ [(H.size, .inl (cA 4, n.toNatClampNeg, .inr (.inr (.inr (.inr (fun _ => none))))))]) H1 := by
    refine pt_xP.mpr ⟨hPk, fun k x hx => ?_⟩
    have hz : k < 1 := (List.getElem?_eq_some_iff.mp hx).1
    rw [show k = 0 by omega] at hx
    cases hx
    show H1[H.size]? = some (vp_cell _ _)
    rw [vp_cell_q]
    exact e1
  have hDn : va_D A ((B ++ Y) ++ [(H.size, .inl (cA 4, n.toNatClampNeg, .inr (.inr (.inr (.inr (fun _ => none))))))]) := hD.push hP rfl (hA _ hS.1)
  rw [List.append_assoc] at hPn hDn
  exact kk H.size H1 hPn hDn ⟨Nat.le_trans hS.1 (by omega), fun x h1 h2 => (o1 x (Nat.lt_of_lt_of_le h1 hS.1)).trans (hS.2.1 x h1 h2), hS.2.2⟩
theorem pt_xastA (F : pt_F p m c cc nL s args own D cA) (hAA : pt_AA cA s) (hP : va_P D pt_cl (B ++ Y) H) (hD : va_D A (B ++ Y)) (hS : va_S A H0 H locs) (i i2 : Nat) {n : Nat} {g : Nat → Option Nat} (hy : Y[i]? = some (a, .inl (cA 4, n, .inr (.inr (.inr (.inr g)))))) {v n2 : Nat} {f2 : Nat → Int32} (hy2 : Y[i2]? = some (v, .inl (cA 0, n2, .inl f2))) {j : Int32} (hin : vp_in j n) (hdg : decode cc pc = .ok (.aastore, 1)) {Y' : (Nat → Option Nat) → va_W} (hY : ∀ f1, Y.set i (a, .inl (cA 4, n, .inr (.inr (.inr (.inr f1))))) = Y' f1)
    (kk : ∀ (g1 : Nat → Option Nat) (H1 : Heap) (locs1 : List Loc), g1 j.toNatClampNeg = some v → va_P D pt_cl (B ++ Y' g1) H1 → va_D A (B ++ Y' g1) → va_S A H0 H1 locs1 → W p l e R s m args below meth c H1 locs1 cells slots Q (F0 m (pc + 1) ls rest)) : W p l e R s m args below meth c H locs cells slots Q (F0 m pc ls (.ref v :: .int j :: .ref a :: rest)) := by
  have hlt : j.toNatClampNeg < n := Nat.not_le.mp fun q => hin (Or.inr q)
  have h0 : ¬ j < 0 := fun q => hin (Or.inl q)
  have ha := pt_xat (B := B) hy
  have hv := hP _ _ (pt_xat (B := B) hy2)
  obtain ⟨-, -, kA, k1, k2⟩ := hAA
  obtain ⟨-, kI, hkI, -⟩ := (F.2.2 0 (cA 0, .int) rfl).1 n2 (fun j => .int (f2 j))
  refine W.aast (t := .array .int) (comp := cA 0) (cell := vp_cell (cA 4) (n, .inr (.inr (.inr (.inr g))))) (cv := vp_cell (cA 0) (n2, .inl f2)) F.1.1 F.1.2.1 (hP _ _ ha) (fun q h => by cases h) (fun h => by cases h) k1 k2 rfl hkI ⟨h0, by show _ < (arrV _ _ _).slots.size; rw [arrV_size]; exact hlt⟩ hv (fun q h => by cases h) hkI (pt_asg _ _) rfl rfl hdg fun H1 e z oq => ?_
  have g1 : va_P D pt_cl ((B ++ Y).set (B.length + i) (a, .inl (cA 4, n, .inr (.inr (.inr (.inr (va_up g j.toNatClampNeg (some v)))))))) H1 := by
    refine hP.set hD ha ?_ oq
    show H1[a]? = some (vp_cell _ _)
    rw [e]
    rw [vp_cell_q, vp_cell_q, arrV_store]
    congr 2
    funext q
    by_cases hq : q = j.toNatClampNeg
    · subst hq
      simp [updV, va_up, va_rf]
    · simp [updV, va_up, hq]
  have g2 := hD.set (e := .inl (cA 4, n, .inr (.inr (.inr (.inr (va_up g j.toNatClampNeg (some v))))))) ha
  rw [pt_xset, hY] at g1 g2
  exact kk _ H1 _ (va_up_self _ _ _) g1 g2 (hS.put z oq (hD.2 _ _ ha))
theorem pt_xaldA (F : pt_F p m c cc nL s args own D cA) (hAA : pt_AA cA s) (hP : va_P D pt_cl (B ++ Y) H) (i : Nat) {n : Nat} {g : Nat → Option Nat} (hy : Y[i]? = some (a, .inl (cA 4, n, .inr (.inr (.inr (.inr g)))))) {j : Int32} {v : Nat} (hg : g j.toNatClampNeg = some v) (hin : vp_in j n) (hdg : decode cc pc = .ok (.aaload, 1))
    (kk : W p l e R s m args below meth c H locs cells slots Q (F0 m (pc + 1) ls (.ref v :: rest))) : W p l e R s m args below meth c H locs cells slots Q (F0 m pc ls (.int j :: .ref a :: rest)) := by
  have hlt : j.toNatClampNeg < n := Nat.not_le.mp fun q => hin (Or.inr q)
  have hc : H[a]? = some (vp_cell (cA 4) (n, .inr (.inr (.inr (.inr g))))) := hP _ _ (pt_xat (B := B) hy)
  refine W.aald (v := .ref v) (ty := .array .int) F.1.1 F.1.2.1 hc (hAA.1 n (fun j => va_rf (g j))) rfl (fun q => by cases q) (by show ¬ (j < 0 ∨ (arrV _ _ _).slots.size ≤ _); rw [arrV_size]; exact hin) (by show (arrV _ _ _).slots[_]? = _; rw [arrV_read _ _ hlt, hg]; rfl) rfl rfl hdg kk
/-- a call of a method that only answers an int -/
theorem pt_callp {Qi : Int32 → Prop} {a : Array Value} (hr : va_Run p l e R s m args below meth c H locs cells slots 0 0 (F0 m pc ls st) rest (va_Qi (fun r (_ : Unit) => Qi r) (fun _ _ => True) (fun _ => False) a) (fun _ => False)) (hS : va_S A H0 H locs)
    (kk : ∀ (r : Int32) (H1 : Heap) (locs1 : List Loc), Qi r → (∀ q : Nat, q < H.size → H1[q]? = H[q]?) → va_S A H0 H1 locs1 → W p l e R s m args below meth c H1 locs1 cells slots Q (F0 m (pc + 3) ls (.int r :: rest))) : W p l e R s m args below meth c H locs cells slots Q (F0 m pc ls st) :=
  va_calli hr hS (fun _ _ h => h.elim) (fun _ h => h.elim) (fun r u t H1 locs1 ht _ hq hB hz ho hS1 => kk r H1 locs1 hq (fun q h => ho q h id) hS1)
/-- its run: static, of the law's class -/
theorem pt_runP (F : pt_F p m c cc nL s args own D cA) {As : List Value} {y : MethodName} {bytes : ByteArray} {maxL index n : Nat} {ret : Option FieldType} {rm : Room} {PU : State → Prop} {Qc : Array Value → State → Outcome → State → Prop} {free : Addr → Prop} {mc ms : Nat}
    (hM : Met l y (Cond.code y bytes maxL ret :: lw_all) rm (va_Pc As PU) Qc mc ms free) (hbl : FrameBlind (va_Pc As PU)) (hp : ∀ U : State, U.heap = H → s.WarmedH U.vm → PU U) (h1 : Cond.code y bytes maxL ret ∈ lw_all) (h2 : Cond.methodLink own index y ∈ lw_all) (h5 : Cond.initialized y.cls ∈ lw_all) (h3 : Cond.static y ∈ lw_all) (hd : y.cls ≠ "java/lang/invoke/MethodHandle" ∧ y.cls ≠ "java/lang/invoke/VarHandle" ∧ (parseMethodDescriptor y.desc).map (fun d => d.parameters.length) = some n) (hrm : rm.cells = mc ∧ rm.slots = ms ∧ rm.frames + 1 ≤ R.frames ∧ 8 + (maxL + 11) + rm.locals ≤ R.locals)
    (hn : As.length = n) (hsz : ls.size = nL) (hst : st = As.reverse ++ rest) (hW : (rest.map fun v => v.category).sum ≤ 8) (hdg : decode cc pc = .ok (.invokestatic index, 3)) (hcs : cells + mc ≤ R.cells ∧ slots + ms ≤ R.slots) :
    va_Run p l e R s m args below meth c H locs cells slots mc ms (F0 m pc ls st) rest (Qc As.toArray) free := by
  have hts := F.1.2.2.2.2
  refine va_runS (As := As) (rest := rest) F.1 hM ⟨⟨hrm.1, hrm.2.1, hrm.2.2.1, hrm.2.2.2, ?_, List.mem_cons_self, hts _ h1, hts _ h5, ⟨hd.1, hd.2.1⟩, fun sig h => ?_, hts _ h2⟩, hts _ h3⟩ ⟨hbl, fun U hU hW => ⟨rfl, hp U hU hW⟩⟩ rfl hn hsz hst (lv_room hW) hdg hcs
  · intro w hw a' U hW
    rcases List.mem_cons.mp hw with rfl | hw
    · exact pt_pay hts _ h1 a' U hW
    · exact pt_pay hts _ hw a' U hW
  · have h6 := hd.2.2
    rw [h] at h6
    exact (Option.some.inj h6).symm
end PTX
end
