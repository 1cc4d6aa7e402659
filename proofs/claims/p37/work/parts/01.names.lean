-- names, field tables and decode rows: chosen by wip/gen/setup.py out of what TURN printed of the class (given for pasting)
def RX0 : String := "PuppetTheatre$Action"
def TX0 : u_T := fun k => match k with
  | 0 => ("PuppetTheatre$Action", "code", "I", false)
  | 1 => ("PuppetTheatre$Action", "what", "I", false)
  | _ => ("PuppetTheatre$Action", "n", "I", false)
def tyX0 : Nat → FieldType := fun k => match k with
  | 0 => .int
  | 1 => .int
  | _ => .int
abbrev wsX00 : List Cond := u_ws RX0 TX0 3
theorem nmX0 : ∀ a, a < 3 → ∀ b, b < 3 → a ≠ b → (TX0 a).2.1 ≠ (TX0 b).2.1 := by decide +kernel
theorem tyX0_ok : ∀ k, k < 3 → parseFieldDescriptor (TX0 k).2.2.1 = some (tyX0 k) := by decide +kernel
abbrev cX0_init : ByteArray := prog_2_method_1_code
def yX0_init : MethodName := ⟨RX0, "<init>", "()V"⟩
abbrev cX0_become : ByteArray := prog_2_method_2_code
def yX0_become : MethodName := ⟨RX0, "become", "(III)I"⟩
def RX1 : String := "PuppetTheatre$Chart"
def TX1 : u_T := fun k => match k with
  | 0 => ("PuppetTheatre$Chart", "states", "[LPuppetTheatre$State;", true)
  | 1 => ("PuppetTheatre$Chart", "transitions", "[LPuppetTheatre$Transition;", true)
  | 2 => ("PuppetTheatre$Chart", "causedBy", "[I", true)
  | 3 => ("PuppetTheatre$Chart", "stateCount", "I", false)
  | 4 => ("PuppetTheatre$Chart", "transitionCount", "I", false)
  | 5 => ("PuppetTheatre$Chart", "leaves", "I", false)
  | _ => ("PuppetTheatre$Chart", "ends", "I", false)
def tyX1 : Nat → FieldType := fun k => match k with
  | 0 => .array (.object "PuppetTheatre$State")
  | 1 => .array (.object "PuppetTheatre$Transition")
  | 2 => .array .int
  | 3 => .int
  | 4 => .int
  | 5 => .int
  | _ => .int
abbrev wsX10 : List Cond := u_ws RX1 TX1 7
theorem nmX1 : ∀ a, a < 7 → ∀ b, b < 7 → a ≠ b → (TX1 a).2.1 ≠ (TX1 b).2.1 := by decide +kernel
theorem tyX1_ok : ∀ k, k < 7 → parseFieldDescriptor (TX1 k).2.2.1 = some (tyX1 k) := by decide +kernel
abbrev cX1_init : ByteArray := prog_3_method_1_code
def yX1_init : MethodName := ⟨RX1, "<init>", "()V"⟩
abbrev cX1_putState : ByteArray := prog_3_method_2_code
def yX1_putState : MethodName := ⟨RX1, "putState", "(II)I"⟩
abbrev cX1_putTransition : ByteArray := prog_3_method_3_code
def yX1_putTransition : MethodName := ⟨RX1, "putTransition", "(IIII)I"⟩
abbrev cX1_causeOf : ByteArray := prog_3_method_4_code
def yX1_causeOf : MethodName := ⟨RX1, "causeOf", "(II)I"⟩
abbrev cX1_scopeOf : ByteArray := prog_3_method_5_code
def yX1_scopeOf : MethodName := ⟨RX1, "scopeOf", "(II)I"⟩
abbrev cX1_filled : ByteArray := prog_3_method_6_code
def yX1_filled : MethodName := ⟨RX1, "filled", "(I)I"⟩
abbrev cX1_enteredInto : ByteArray := prog_3_method_7_code
def yX1_enteredInto : MethodName := ⟨RX1, "enteredInto", "(II)I"⟩
abbrev cX1_partsAside : ByteArray := prog_3_method_8_code
def yX1_partsAside : MethodName := ⟨RX1, "partsAside", "(II)I"⟩
abbrev cX1_endedAmong : ByteArray := prog_3_method_9_code
def yX1_endedAmong : MethodName := ⟨RX1, "endedAmong", "(I)I"⟩
def RX2 : String := "PuppetTheatre$Look"
def TX2 : u_T := fun k => match k with
  | 0 => ("PuppetTheatre$Look", "row", "[I", true)
  | 1 => ("PuppetTheatre$Look", "rowLength", "I", false)
  | 2 => ("PuppetTheatre$Look", "lookedAt", "I", false)
  | 3 => ("PuppetTheatre$Look", "trial", "LPuppetTheatre$Play;", true)
  | 4 => ("PuppetTheatre$Look", "found", "[LPuppetTheatre$Situation;", true)
  | 5 => ("PuppetTheatre$Look", "origin", "[I", true)
  | 6 => ("PuppetTheatre$Look", "byCall", "[I", true)
  | 7 => ("PuppetTheatre$Look", "calls", "[I", true)
  | _ => ("PuppetTheatre$Look", "foundCount", "I", false)
def tyX2 : Nat → FieldType := fun k => match k with
  | 0 => .array .int
  | 1 => .int
  | 2 => .int
  | 3 => .object "PuppetTheatre$Play"
  | 4 => .array (.object "PuppetTheatre$Situation")
  | 5 => .array .int
  | 6 => .array .int
  | 7 => .array .int
  | _ => .int
abbrev wsX20 : List Cond := u_ws RX2 TX2 9
theorem nmX2 : ∀ a, a < 9 → ∀ b, b < 9 → a ≠ b → (TX2 a).2.1 ≠ (TX2 b).2.1 := by decide +kernel
theorem tyX2_ok : ∀ k, k < 9 → parseFieldDescriptor (TX2 k).2.2.1 = some (tyX2 k) := by decide +kernel
abbrev cX2_init : ByteArray := prog_4_method_1_code
def yX2_init : MethodName := ⟨RX2, "<init>", "(LPuppetTheatre$Play;)V"⟩
abbrev cX2_search : ByteArray := prog_4_method_2_code
def yX2_search : MethodName := ⟨RX2, "search", "(LPuppetTheatre$Situation;III)I"⟩
abbrev cX2_isReached : ByteArray := prog_4_method_3_code
def yX2_isReached : MethodName := ⟨RX2, "isReached", "(II)Z"⟩
abbrev cX2_keepIfNew : ByteArray := prog_4_method_4_code
def yX2_keepIfNew : MethodName := ⟨RX2, "keepIfNew", "(II)V"⟩
abbrev cX2_writeRow : ByteArray := prog_4_method_5_code
def yX2_writeRow : MethodName := ⟨RX2, "writeRow", "(II)V"⟩
def RX3 : String := "PuppetTheatre$Play"
def TX3 : u_T := fun k => match k with
  | 0 => ("PuppetTheatre$Play", "chart", "LPuppetTheatre$Chart;", true)
  | 1 => ("PuppetTheatre$Play", "situation", "LPuppetTheatre$Situation;", true)
  | 2 => ("PuppetTheatre$Play", "fired", "[I", true)
  | 3 => ("PuppetTheatre$Play", "firedLast", "I", false)
  | 4 => ("PuppetTheatre$Play", "clock", "I", false)
  | 5 => ("PuppetTheatre$Play", "lost", "I", false)
  | 6 => ("PuppetTheatre$Play", "restless", "I", false)
  | 7 => ("PuppetTheatre$Play", "queue", "[I", true)
  | 8 => ("PuppetTheatre$Play", "queued", "I", false)
  | 9 => ("PuppetTheatre$Play", "taken", "[I", true)
  | _ => ("PuppetTheatre$Play", "takenCount", "I", false)
def tyX3 : Nat → FieldType := fun k => match k with
  | 0 => .object "PuppetTheatre$Chart"
  | 1 => .object "PuppetTheatre$Situation"
  | 2 => .array .int
  | 3 => .int
  | 4 => .int
  | 5 => .int
  | 6 => .int
  | 7 => .array .int
  | 8 => .int
  | 9 => .array .int
  | _ => .int
abbrev wsX30 : List Cond := u_ws RX3 TX3 11
theorem nmX3 : ∀ a, a < 11 → ∀ b, b < 11 → a ≠ b → (TX3 a).2.1 ≠ (TX3 b).2.1 := by decide +kernel
theorem tyX3_ok : ∀ k, k < 11 → parseFieldDescriptor (TX3 k).2.2.1 = some (tyX3 k) := by decide +kernel
abbrev cX3_init : ByteArray := prog_5_method_1_code
def yX3_init : MethodName := ⟨RX3, "<init>", "(LPuppetTheatre$Chart;)V"⟩
abbrev cX3_reset : ByteArray := prog_5_method_2_code
def yX3_reset : MethodName := ⟨RX3, "reset", "()V"⟩
abbrev cX3_isAtEnd : ByteArray := prog_5_method_3_code
def yX3_isAtEnd : MethodName := ⟨RX3, "isAtEnd", "()Z"⟩
abbrev cX3_proceed : ByteArray := prog_5_method_4_code
def yX3_proceed : MethodName := ⟨RX3, "proceed", "(I)I"⟩
abbrev cX3_growOlder : ByteArray := prog_5_method_5_code
def yX3_growOlder : MethodName := ⟨RX3, "growOlder", "()V"⟩
abbrev cX3_raise : ByteArray := prog_5_method_6_code
def yX3_raise : MethodName := ⟨RX3, "raise", "(I)V"⟩
abbrev cX3_loseQueue : ByteArray := prog_5_method_7_code
def yX3_loseQueue : MethodName := ⟨RX3, "loseQueue", "()V"⟩
abbrev cX3_nextEvent : ByteArray := prog_5_method_8_code
def yX3_nextEvent : MethodName := ⟨RX3, "nextEvent", "()I"⟩
abbrev cX3_step : ByteArray := prog_5_method_9_code
def yX3_step : MethodName := ⟨RX3, "step", "(I)I"⟩
abbrev cX3_openBy : ByteArray := prog_5_method_10_code
def yX3_openBy : MethodName := ⟨RX3, "openBy", "(I)I"⟩
abbrev cX3_isOpen : ByteArray := prog_5_method_11_code
def yX3_isOpen : MethodName := ⟨RX3, "isOpen", "(LPuppetTheatre$Transition;I)Z"⟩
abbrev cX3_choose : ByteArray := prog_5_method_12_code
def yX3_choose : MethodName := ⟨RX3, "choose", "(I)V"⟩
abbrev cX3_nearestOpen : ByteArray := prog_5_method_13_code
def yX3_nearestOpen : MethodName := ⟨RX3, "nearestOpen", "(II)I"⟩
abbrev cX3_smallestOf : ByteArray := prog_5_method_14_code
def yX3_smallestOf : MethodName := ⟨RX3, "smallestOf", "(I)I"⟩
abbrev cX3_takeIfFree : ByteArray := prog_5_method_15_code
def yX3_takeIfFree : MethodName := ⟨RX3, "takeIfFree", "(I)V"⟩
abbrev cX3_leftBy : ByteArray := prog_5_method_16_code
def yX3_leftBy : MethodName := ⟨RX3, "leftBy", "(LPuppetTheatre$Transition;)I"⟩
abbrev cX3_makeRecords : ByteArray := prog_5_method_17_code
def yX3_makeRecords : MethodName := ⟨RX3, "makeRecords", "(I)V"⟩
abbrev cX3_leave : ByteArray := prog_5_method_18_code
def yX3_leave : MethodName := ⟨RX3, "leave", "(I)V"⟩
abbrev cX3_enter : ByteArray := prog_5_method_19_code
def yX3_enter : MethodName := ⟨RX3, "enter", "(I)V"⟩
abbrev cX3_targetsOf : ByteArray := prog_5_method_20_code
def yX3_targetsOf : MethodName := ⟨RX3, "targetsOf", "(LPuppetTheatre$Transition;)I"⟩
abbrev cX3_act : ByteArray := prog_5_method_21_code
def yX3_act : MethodName := ⟨RX3, "act", "(LPuppetTheatre$Action;)V"⟩
def RX4 : String := "PuppetTheatre$Situation"
def TX4 : u_T := fun k => match k with
  | 0 => ("PuppetTheatre$Situation", "ages", "[I", true)
  | 1 => ("PuppetTheatre$Situation", "records", "[I", true)
  | 2 => ("PuppetTheatre$Situation", "variables", "[I", true)
  | _ => ("PuppetTheatre$Situation", "active", "I", false)
def tyX4 : Nat → FieldType := fun k => match k with
  | 0 => .array .int
  | 1 => .array .int
  | 2 => .array .int
  | _ => .int
abbrev wsX40 : List Cond := u_ws RX4 TX4 4
theorem nmX4 : ∀ a, a < 4 → ∀ b, b < 4 → a ≠ b → (TX4 a).2.1 ≠ (TX4 b).2.1 := by decide +kernel
theorem tyX4_ok : ∀ k, k < 4 → parseFieldDescriptor (TX4 k).2.2.1 = some (tyX4 k) := by decide +kernel
abbrev cX4_init : ByteArray := prog_6_method_1_code
def yX4_init : MethodName := ⟨RX4, "<init>", "()V"⟩
abbrev cX4_deactivate : ByteArray := prog_6_method_2_code
def yX4_deactivate : MethodName := ⟨RX4, "deactivate", "()V"⟩
abbrev cX4_clear : ByteArray := prog_6_method_3_code
def yX4_clear : MethodName := ⟨RX4, "clear", "()V"⟩
abbrev cX4_add : ByteArray := prog_6_method_4_code
def yX4_add : MethodName := ⟨RX4, "add", "(II)V"⟩
abbrev cX4_copyFrom : ByteArray := prog_6_method_5_code
def yX4_copyFrom : MethodName := ⟨RX4, "copyFrom", "(LPuppetTheatre$Situation;)V"⟩
abbrev cX4_isSameAs : ByteArray := prog_6_method_6_code
def yX4_isSameAs : MethodName := ⟨RX4, "isSameAs", "(LPuppetTheatre$Situation;)Z"⟩
def RX5 : String := "PuppetTheatre$State"
def TX5 : u_T := fun k => match k with
  | 0 => ("PuppetTheatre$State", "entering", "LPuppetTheatre$Action;", true)
  | 1 => ("PuppetTheatre$State", "leaving", "LPuppetTheatre$Action;", true)
  | 2 => ("PuppetTheatre$State", "kind", "I", false)
  | 3 => ("PuppetTheatre$State", "parent", "I", false)
  | 4 => ("PuppetTheatre$State", "first", "I", false)
  | 5 => ("PuppetTheatre$State", "parts", "I", false)
  | 6 => ("PuppetTheatre$State", "filledWith", "I", false)
  | 7 => ("PuppetTheatre$State", "beneath", "I", false)
  | _ => ("PuppetTheatre$State", "departing", "I", false)
def tyX5 : Nat → FieldType := fun k => match k with
  | 0 => .object "PuppetTheatre$Action"
  | 1 => .object "PuppetTheatre$Action"
  | 2 => .int
  | 3 => .int
  | 4 => .int
  | 5 => .int
  | 6 => .int
  | 7 => .int
  | _ => .int
abbrev wsX50 : List Cond := u_ws RX5 TX5 9
theorem nmX5 : ∀ a, a < 9 → ∀ b, b < 9 → a ≠ b → (TX5 a).2.1 ≠ (TX5 b).2.1 := by decide +kernel
theorem tyX5_ok : ∀ k, k < 9 → parseFieldDescriptor (TX5 k).2.2.1 = some (tyX5 k) := by decide +kernel
abbrev cX5_init : ByteArray := prog_7_method_1_code
def yX5_init : MethodName := ⟨RX5, "<init>", "()V"⟩
abbrev cX5_isMark : ByteArray := prog_7_method_2_code
def yX5_isMark : MethodName := ⟨RX5, "isMark", "()Z"⟩
abbrev cX5_isHolder : ByteArray := prog_7_method_3_code
def yX5_isHolder : MethodName := ⟨RX5, "isHolder", "()Z"⟩
abbrev cX5_putFirst : ByteArray := prog_7_method_4_code
def yX5_putFirst : MethodName := ⟨RX5, "putFirst", "(I)V"⟩
abbrev cX5_putPart : ByteArray := prog_7_method_5_code
def yX5_putPart : MethodName := ⟨RX5, "putPart", "(I)V"⟩
def RX6 : String := "PuppetTheatre$Transition"
def TX6 : u_T := fun k => match k with
  | 0 => ("PuppetTheatre$Transition", "action", "LPuppetTheatre$Action;", true)
  | 1 => ("PuppetTheatre$Transition", "from", "I", false)
  | 2 => ("PuppetTheatre$Transition", "trigger", "I", false)
  | 3 => ("PuppetTheatre$Transition", "n", "I", false)
  | 4 => ("PuppetTheatre$Transition", "to", "I", false)
  | 5 => ("PuppetTheatre$Transition", "scope", "I", false)
  | 6 => ("PuppetTheatre$Transition", "how", "I", false)
  | 7 => ("PuppetTheatre$Transition", "variable", "I", false)
  | _ => ("PuppetTheatre$Transition", "bound", "I", false)
def tyX6 : Nat → FieldType := fun k => match k with
  | 0 => .object "PuppetTheatre$Action"
  | 1 => .int
  | 2 => .int
  | 3 => .int
  | 4 => .int
  | 5 => .int
  | 6 => .int
  | 7 => .int
  | _ => .int
abbrev wsX60 : List Cond := u_ws RX6 TX6 9
theorem nmX6 : ∀ a, a < 9 → ∀ b, b < 9 → a ≠ b → (TX6 a).2.1 ≠ (TX6 b).2.1 := by decide +kernel
theorem tyX6_ok : ∀ k, k < 9 → parseFieldDescriptor (TX6 k).2.2.1 = some (tyX6 k) := by decide +kernel
abbrev cX6_init : ByteArray := prog_8_method_1_code
def yX6_init : MethodName := ⟨RX6, "<init>", "()V"⟩
abbrev cX6_isAllowed : ByteArray := prog_8_method_2_code
def yX6_isAllowed : MethodName := ⟨RX6, "isAllowed", "([I)Z"⟩
def RX7 : String := "PuppetTheatre"
def TX7 : u_T := fun k => match k with
  | 0 => ("PuppetTheatre", "chart", "LPuppetTheatre$Chart;", true)
  | 1 => ("PuppetTheatre", "play", "LPuppetTheatre$Play;", true)
  | 2 => ("PuppetTheatre", "trial", "LPuppetTheatre$Play;", true)
  | 3 => ("PuppetTheatre", "look", "LPuppetTheatre$Look;", true)
  | _ => ("PuppetTheatre", "running", "Z", false)
def tyX7 : Nat → FieldType := fun k => match k with
  | 0 => .object "PuppetTheatre$Chart"
  | 1 => .object "PuppetTheatre$Play"
  | 2 => .object "PuppetTheatre$Play"
  | 3 => .object "PuppetTheatre$Look"
  | _ => .boolean
abbrev wsX70 : List Cond := u_ws RX7 TX7 5
theorem nmX7 : ∀ a, a < 5 → ∀ b, b < 5 → a ≠ b → (TX7 a).2.1 ≠ (TX7 b).2.1 := by decide +kernel
theorem tyX7_ok : ∀ k, k < 5 → parseFieldDescriptor (TX7 k).2.2.1 = some (tyX7 k) := by decide +kernel
abbrev cX7_init : ByteArray := prog_1_method_1_code
def yX7_init : MethodName := ⟨RX7, "<init>", "()V"⟩
abbrev cX7_addState : ByteArray := prog_1_method_2_code
def yX7_addState : MethodName := ⟨RX7, "addState", "(II)I"⟩
abbrev cX7_setDoing : ByteArray := prog_1_method_4_code
def yX7_setDoing : MethodName := ⟨RX7, "setDoing", "(IZIII)I"⟩
abbrev cX7_addTransition : ByteArray := prog_1_method_5_code
def yX7_addTransition : MethodName := ⟨RX7, "addTransition", "(IIII)I"⟩
abbrev cX7_setGuard : ByteArray := prog_1_method_6_code
def yX7_setGuard : MethodName := ⟨RX7, "setGuard", "(IIII)I"⟩
abbrev cX7_setAction : ByteArray := prog_1_method_7_code
def yX7_setAction : MethodName := ⟨RX7, "setAction", "(IIII)I"⟩
abbrev cX7_start : ByteArray := prog_1_method_8_code
def yX7_start : MethodName := ⟨RX7, "start", "()I"⟩
abbrev cX7_send : ByteArray := prog_1_method_10_code
def yX7_send : MethodName := ⟨RX7, "send", "(I)I"⟩
abbrev cX7_tick : ByteArray := prog_1_method_11_code
def yX7_tick : MethodName := ⟨RX7, "tick", "(I)I"⟩
abbrev cX7_states : ByteArray := prog_1_method_12_code
def yX7_states : MethodName := ⟨RX7, "states", "()I"⟩
abbrev cX7_transitions : ByteArray := prog_1_method_13_code
def yX7_transitions : MethodName := ⟨RX7, "transitions", "()I"⟩
abbrev cX7_ofState : ByteArray := prog_1_method_14_code
def yX7_ofState : MethodName := ⟨RX7, "ofState", "(II)I"⟩
abbrev cX7_isRunning : ByteArray := prog_1_method_15_code
def yX7_isRunning : MethodName := ⟨RX7, "isRunning", "()Z"⟩
abbrev cX7_active : ByteArray := prog_1_method_16_code
def yX7_active : MethodName := ⟨RX7, "active", "()I"⟩
abbrev cX7_isOver : ByteArray := prog_1_method_17_code
def yX7_isOver : MethodName := ⟨RX7, "isOver", "()Z"⟩
abbrev cX7_isEnded : ByteArray := prog_1_method_18_code
def yX7_isEnded : MethodName := ⟨RX7, "isEnded", "(I)Z"⟩
abbrev cX7_ageOf : ByteArray := prog_1_method_19_code
def yX7_ageOf : MethodName := ⟨RX7, "ageOf", "(I)I"⟩
abbrev cX7_record : ByteArray := prog_1_method_20_code
def yX7_record : MethodName := ⟨RX7, "record", "(I)I"⟩
abbrev cX7_variable : ByteArray := prog_1_method_21_code
def yX7_variable : MethodName := ⟨RX7, "variable", "(I)I"⟩
abbrev cX7_clock : ByteArray := prog_1_method_22_code
def yX7_clock : MethodName := ⟨RX7, "clock", "()I"⟩
abbrev cX7_fired : ByteArray := prog_1_method_23_code
def yX7_fired : MethodName := ⟨RX7, "fired", "(I)I"⟩
abbrev cX7_covered : ByteArray := prog_1_method_24_code
def yX7_covered : MethodName := ⟨RX7, "covered", "()I"⟩
abbrev cX7_lost : ByteArray := prog_1_method_25_code
def yX7_lost : MethodName := ⟨RX7, "lost", "()I"⟩
abbrev cX7_restless : ByteArray := prog_1_method_26_code
def yX7_restless : MethodName := ⟨RX7, "restless", "()I"⟩
abbrev cX7_wouldFire : ByteArray := prog_1_method_27_code
def yX7_wouldFire : MethodName := ⟨RX7, "wouldFire", "(I)I"⟩
abbrev cX7_wouldBe : ByteArray := prog_1_method_28_code
def yX7_wouldBe : MethodName := ⟨RX7, "wouldBe", "(I)I"⟩
abbrev cX7_open : ByteArray := prog_1_method_29_code
def yX7_open : MethodName := ⟨RX7, "open", "()I"⟩
abbrev cX7_rowTo : ByteArray := prog_1_method_30_code
def yX7_rowTo : MethodName := ⟨RX7, "rowTo", "(II)I"⟩
abbrev cX7_rowAt : ByteArray := prog_1_method_32_code
def yX7_rowAt : MethodName := ⟨RX7, "rowAt", "(I)I"⟩
abbrev cX7_looked : ByteArray := prog_1_method_33_code
def yX7_looked : MethodName := ⟨RX7, "looked", "()I"⟩
abbrev cX7_meanAge : ByteArray := prog_1_method_34_code
def yX7_meanAge : MethodName := ⟨RX7, "meanAge", "()D"⟩
abbrev cX7_digest : ByteArray := prog_1_method_35_code
def yX7_digest : MethodName := ⟨RX7, "digest", "()J"⟩
abbrev cX7_digestOfStates : ByteArray := prog_1_method_36_code
def yX7_digestOfStates : MethodName := ⟨RX7, "digestOfStates", "(J)J"⟩
abbrev cX7_checkResting : ByteArray := prog_1_method_37_code
def yX7_checkResting : MethodName := ⟨RX7, "checkResting", "()V"⟩
abbrev cX7_checkRunning : ByteArray := prog_1_method_38_code
def yX7_checkRunning : MethodName := ⟨RX7, "checkRunning", "()V"⟩
abbrev cX7_checkState : ByteArray := prog_1_method_39_code
def yX7_checkState : MethodName := ⟨RX7, "checkState", "(I)V"⟩
abbrev cX7_checkTransition : ByteArray := prog_1_method_40_code
def yX7_checkTransition : MethodName := ⟨RX7, "checkTransition", "(I)V"⟩
abbrev cX7_checkEvent : ByteArray := prog_1_method_41_code
def yX7_checkEvent : MethodName := ⟨RX7, "checkEvent", "(I)V"⟩
abbrev cX7_checkMost : ByteArray := prog_1_method_42_code
def yX7_checkMost : MethodName := ⟨RX7, "checkMost", "(I)V"⟩
abbrev cX7_isTrigger : ByteArray := prog_1_method_43_code
def yX7_isTrigger : MethodName := ⟨RX7, "isTrigger", "(II)Z"⟩
abbrev cX7_isGuard : ByteArray := prog_1_method_44_code
def yX7_isGuard : MethodName := ⟨RX7, "isGuard", "(III)Z"⟩
abbrev cX7_isAction : ByteArray := prog_1_method_45_code
def yX7_isAction : MethodName := ⟨RX7, "isAction", "(III)Z"⟩
abbrev cX7_isNumber : ByteArray := prog_1_method_46_code
def yX7_isNumber : MethodName := ⟨RX7, "isNumber", "(I)Z"⟩
abbrev cX7_isWithin : ByteArray := prog_1_method_47_code
def yX7_isWithin : MethodName := ⟨RX7, "isWithin", "(III)Z"⟩
abbrev cX7_setOf : ByteArray := prog_1_method_48_code
def yX7_setOf : MethodName := ⟨RX7, "setOf", "(I)I"⟩
abbrev cX7_has : ByteArray := prog_1_method_49_code
def yX7_has : MethodName := ⟨RX7, "has", "(II)Z"⟩
def RX8 : String := "PuppetTheatreModel$Chart"
def TX8 : u_T := fun k => match k with
  | _ => ("", "", "", false)
def tyX8 : Nat → FieldType := fun k => match k with
  | _ => .int
abbrev wsX80 : List Cond := u_ws RX8 TX8 0
theorem nmX8 : ∀ a, a < 0 → ∀ b, b < 0 → a ≠ b → (TX8 a).2.1 ≠ (TX8 b).2.1 := by decide +kernel
theorem tyX8_ok : ∀ k, k < 0 → parseFieldDescriptor (TX8 k).2.2.1 = some (tyX8 k) := by decide +kernel
def RX9 : String := "PuppetTheatreModel$Run"
def TX9 : u_T := fun k => match k with
  | _ => ("", "", "", false)
def tyX9 : Nat → FieldType := fun k => match k with
  | _ => .int
abbrev wsX90 : List Cond := u_ws RX9 TX9 0
theorem nmX9 : ∀ a, a < 0 → ∀ b, b < 0 → a ≠ b → (TX9 a).2.1 ≠ (TX9 b).2.1 := by decide +kernel
theorem tyX9_ok : ∀ k, k < 0 → parseFieldDescriptor (TX9 k).2.2.1 = some (tyX9 k) := by decide +kernel
def RX10 : String := "PuppetTheatreModel$State"
def TX10 : u_T := fun k => match k with
  | _ => ("", "", "", false)
def tyX10 : Nat → FieldType := fun k => match k with
  | _ => .int
abbrev wsX100 : List Cond := u_ws RX10 TX10 0
theorem nmX10 : ∀ a, a < 0 → ∀ b, b < 0 → a ≠ b → (TX10 a).2.1 ≠ (TX10 b).2.1 := by decide +kernel
theorem tyX10_ok : ∀ k, k < 0 → parseFieldDescriptor (TX10 k).2.2.1 = some (tyX10 k) := by decide +kernel
def RX11 : String := "PuppetTheatreModel$Transition"
def TX11 : u_T := fun k => match k with
  | _ => ("", "", "", false)
def tyX11 : Nat → FieldType := fun k => match k with
  | _ => .int
abbrev wsX110 : List Cond := u_ws RX11 TX11 0
theorem nmX11 : ∀ a, a < 0 → ∀ b, b < 0 → a ≠ b → (TX11 a).2.1 ≠ (TX11 b).2.1 := by decide +kernel
theorem tyX11_ok : ∀ k, k < 0 → parseFieldDescriptor (TX11 k).2.2.1 = some (tyX11 k) := by decide +kernel
def RX12 : String := "PuppetTheatreModel"
def TX12 : u_T := fun k => match k with
  | _ => ("", "", "", false)
def tyX12 : Nat → FieldType := fun k => match k with
  | _ => .int
abbrev wsX120 : List Cond := u_ws RX12 TX12 0
theorem nmX12 : ∀ a, a < 0 → ∀ b, b < 0 → a ≠ b → (TX12 a).2.1 ≠ (TX12 b).2.1 := by decide +kernel
theorem tyX12_ok : ∀ k, k < 0 → parseFieldDescriptor (TX12 k).2.2.1 = some (tyX12 k) := by decide +kernel
def RJx145de : String := "java/io/Serializable"
def TJx145de : u_T := fun k => match k with
  | _ => ("", "", "", false)
def tyJx145de : Nat → FieldType := fun k => match k with
  | _ => .int
abbrev wsJx145de0 : List Cond := u_ws RJx145de TJx145de 0
theorem nmJx145de : ∀ a, a < 0 → ∀ b, b < 0 → a ≠ b → (TJx145de a).2.1 ≠ (TJx145de b).2.1 := by decide +kernel
theorem tyJx145de_ok : ∀ k, k < 0 → parseFieldDescriptor (TJx145de k).2.2.1 = some (tyJx145de k) := by decide +kernel
def RJ6 : String := "java/lang/Integer"
def TJ6 : u_T := fun k => match k with
  | _ => ("", "", "", false)
def tyJ6 : Nat → FieldType := fun k => match k with
  | _ => .int
abbrev wsJ60 : List Cond := u_ws RJ6 TJ6 0
theorem nmJ6 : ∀ a, a < 0 → ∀ b, b < 0 → a ≠ b → (TJ6 a).2.1 ≠ (TJ6 b).2.1 := by decide +kernel
theorem tyJ6_ok : ∀ k, k < 0 → parseFieldDescriptor (TJ6 k).2.2.1 = some (tyJ6 k) := by decide +kernel
abbrev cJ6_bitCount_0f7a4 : ByteArray := prog_19_method_49_code
def yJ6_bitCount_0f7a4 : MethodName := ⟨RJ6, "bitCount", "(I)I"⟩
def RJ9 : String := "java/lang/Math"
def TJ9 : u_T := fun k => match k with
  | _ => ("", "", "", false)
def tyJ9 : Nat → FieldType := fun k => match k with
  | _ => .int
abbrev wsJ90 : List Cond := u_ws RJ9 TJ9 0
theorem nmJ9 : ∀ a, a < 0 → ∀ b, b < 0 → a ≠ b → (TJ9 a).2.1 ≠ (TJ9 b).2.1 := by decide +kernel
theorem tyJ9_ok : ∀ k, k < 0 → parseFieldDescriptor (TJ9 k).2.2.1 = some (tyJ9 k) := by decide +kernel
abbrev cJ9_max_7cf53 : ByteArray := prog_20_method_65_code
def yJ9_max_7cf53 : MethodName := ⟨RJ9, "max", "(II)I"⟩
abbrev cJ9_min_7cf53 : ByteArray := prog_20_method_69_code
def yJ9_min_7cf53 : MethodName := ⟨RJ9, "min", "(II)I"⟩
def RJ10 : String := "java/lang/System"
def TJ10 : u_T := fun k => match k with
  | _ => ("", "", "", false)
def tyJ10 : Nat → FieldType := fun k => match k with
  | _ => .int
abbrev wsJ100 : List Cond := u_ws RJ10 TJ10 0
theorem nmJ10 : ∀ a, a < 0 → ∀ b, b < 0 → a ≠ b → (TJ10 a).2.1 ≠ (TJ10 b).2.1 := by decide +kernel
theorem tyJ10_ok : ∀ k, k < 0 → parseFieldDescriptor (TJ10 k).2.2.1 = some (tyJ10 k) := by decide +kernel
def RL : String := "PuppetTheatreLaw"
abbrev cL_below : ByteArray := method_2_code
def yL_below : MethodName := ⟨RL, "below", "(II)I"⟩
abbrev cL_cell : ByteArray := method_3_code
def yL_cell : MethodName := ⟨RL, "cell", "([II)I"⟩
abbrev cL_doing : ByteArray := method_4_code
def yL_doing : MethodName := ⟨RL, "doing", "(II)[I"⟩
abbrev cL_build : ByteArray := method_5_code
def yL_build : MethodName := ⟨RL, "build", "(LPuppetTheatre;[IIIII)[I"⟩
abbrev cL_isSound : ByteArray := method_6_code
def yL_isSound : MethodName := ⟨RL, "isSound", "(LPuppetTheatre;[I)Z"⟩
abbrev cL_law : ByteArray := code
def yL_law : MethodName := ⟨RL, "law", "([I)Z"⟩
abbrev vwCl : List vw_C := [(RX0, TX0, 3), (RX1, TX1, 7), (RX2, TX2, 9), (RX3, TX3, 11), (RX4, TX4, 4), (RX5, TX5, 9), (RX6, TX6, 9), (RX7, TX7, 5)]
