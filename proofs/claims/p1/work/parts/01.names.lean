-- names, field tables and decode rows: chosen by wip/gen/setup.py out of what TURN printed of the class (given for pasting)
def RX0 : String := "PuppetTheatre$Action"
def TX0 : u_T := fun k => match k with
  | 0 => ("PuppetTheatre$Action", "code", "I", false)
  | 1 => ("PuppetTheatre$Action", "what", "I", false)
  | _ => ("PuppetTheatre$Action", "n", "I", false)
def tyX0 : Nat → FieldType := fun k => match k with
  | 0 => .int
  | 1 => .int
  | _ => .int
abbrev wsX00 : List Cond := u_ws RX0 TX0 3
theorem nmX0 : ∀ a, a < 3 → ∀ b, b < 3 → a ≠ b → (TX0 a).2.1 ≠ (TX0 b).2.1 := by decide +kernel
theorem tyX0_ok : ∀ k, k < 3 → parseFieldDescriptor (TX0 k).2.2.1 = some (tyX0 k) := by decide +kernel
abbrev cX0_init : ByteArray := prog_2_method_1_code
def yX0_init : MethodName := ⟨RX0, "<init>", "()V"⟩
abbrev cX0_become : ByteArray := prog_2_method_2_code
def yX0_become : MethodName := ⟨RX0, "become", "(III)I"⟩
def RX1 : String := "PuppetTheatre$Chart"
def TX1 : u_T := fun k => match k with
  | 0 => ("PuppetTheatre$Chart", "states", "[LPuppetTheatre$State;", true)
  | 1 => ("PuppetTheatre$Chart", "transitions", "[LPuppetTheatre$Transition;", true)
  | 2 => ("PuppetTheatre$Chart", "causedBy", "[I", true)
  | 3 => ("PuppetTheatre$Chart", "stateCount", "I", false)
  | 4 => ("PuppetTheatre$Chart", "transitionCount", "I", false)
  | 5 => ("PuppetTheatre$Chart", "leaves", "I", false)
  | _ => ("PuppetTheatre$Chart", "ends", "I", false)
def tyX1 : Nat → FieldType := fun k => match k with
  | 0 => .array (.object "PuppetTheatre$State")
  | 1 => .array (.object "PuppetTheatre$Transition")
  | 2 => .array .int
  | 3 => .int
  | 4 => .int
  | 5 => .int
  | _ => .int
abbrev wsX10 : List Cond := u_ws RX1 TX1 7
theorem nmX1 : ∀ a, a < 7 → ∀ b, b < 7 → a ≠ b → (TX1 a).2.1 ≠ (TX1 b).2.1 := by decide +kernel
theorem tyX1_ok : ∀ k, k < 7 → parseFieldDescriptor (TX1 k).2.2.1 = some (tyX1 k) := by decide +kernel
abbrev cX1_init : ByteArray := prog_3_method_1_code
def yX1_init : MethodName := ⟨RX1, "<init>", "()V"⟩
abbrev cX1_putState : ByteArray := prog_3_method_2_code
def yX1_putState : MethodName := ⟨RX1, "putState", "(II)I"⟩
abbrev cX1_putTransition : ByteArray := prog_3_method_3_code
def yX1_putTransition : MethodName := ⟨RX1, "putTransition", "(IIII)I"⟩
abbrev cX1_causeOf : ByteArray := prog_3_method_4_code
def yX1_causeOf : MethodName := ⟨RX1, "causeOf", "(II)I"⟩
abbrev cX1_scopeOf : ByteArray := prog_3_method_5_code
def yX1_scopeOf : MethodName := ⟨RX1, "scopeOf", "(II)I"⟩
abbrev cX1_filled : ByteArray := prog_3_method_6_code
def yX1_filled : MethodName := ⟨RX1, "filled", "(I)I"⟩
abbrev cX1_enteredInto : ByteArray := prog_3_method_7_code
def yX1_enteredInto : MethodName := ⟨RX1, "enteredInto", "(II)I"⟩
abbrev cX1_partsAside : ByteArray := prog_3_method_8_code
def yX1_partsAside : MethodName := ⟨RX1, "partsAside", "(II)I"⟩
abbrev cX1_endedAmong : ByteArray := prog_3_method_9_code
def yX1_endedAmong : MethodName := ⟨RX1, "endedAmong", "(I)I"⟩
def RX2 : String := "PuppetTheatre$Look"
def TX2 : u_T := fun k => match k with
  | 0 => ("PuppetTheatre$Look", "row", "[I", true)
  | 1 => ("PuppetTheatre$Look", "rowLength", "I", false)
  | 2 => ("PuppetTheatre$Look", "lookedAt", "I", false)
  | 3 => ("PuppetTheatre$Look", "trial", "LPuppetTheatre$Play;", true)
  | 4 => ("PuppetTheatre$Look", "found", "[LPuppetTheatre$Situation;", true)
  | 5 => ("PuppetTheatre$Look", "origin", "[I", true)
  | 6 => ("PuppetTheatre$Look", "byCall", "[I", true)
  | 7 => ("PuppetTheatre$Look", "calls", "[I", true)
  | _ => ("PuppetTheatre$Look", "foundCount", "I", false)
def tyX2 : Nat → FieldType := fun k => match k with
  | 0 => .array .int
  | 1 => .int
  | 2 => .int
  | 3 => .object "PuppetTheatre$Play"
  | 4 => .array (.object "PuppetTheatre$Situation")
  | 5 => .array .int
  | 6 => .array .int
  | 7 => .array .int
  | _ => .int
abbrev wsX20 : List Cond := u_ws RX2 TX2 9
theorem nmX2 : ∀ a, a < 9 → ∀ b, b < 9 → a ≠ b → (TX2 a).2.1 ≠ (TX2 b).2.1 := by decide +kernel
theorem tyX2_ok : ∀ k, k < 9 → parseFieldDescriptor (TX2 k).2.2.1 = some (tyX2 k) := by decide +kernel
abbrev cX2_init : ByteArray := prog_4_method_1_code
def yX2_init : MethodName := ⟨RX2, "<init>", "(LPuppetTheatre$Play;)V"⟩
abbrev cX2_search : ByteArray := prog_4_method_2_code
def yX2_search : MethodName := ⟨RX2, "search", "(LPuppetTheatre$Situation;III)I"⟩
abbrev cX2_isReached : ByteArray := prog_4_method_3_code
def yX2_isReached : MethodName := ⟨RX2, "isReached", "(II)Z"⟩
abbrev cX2_keepIfNew : ByteArray := prog_4_method_4_code
def yX2_keepIfNew : MethodName := ⟨RX2, "keepIfNew", "(II)V"⟩
abbrev cX2_writeRow : ByteArray := prog_4_method_5_code
def yX2_writeRow : MethodName := ⟨RX2, "writeRow", "(II)V"⟩
def RX3 : String := "PuppetTheatre$Play"
def TX3 : u_T := fun k => match k with
  | 0 => ("PuppetTheatre$Play", "chart", "LPuppetTheatre$Chart;", true)
  | 1 => ("PuppetTheatre$Play", "situation", "LPuppetTheatre$Situation;", true)
  | 2 => ("PuppetTheatre$Play", "fired", "[I", true)
  | 3 => ("PuppetTheatre$Play", "firedLast", "I", false)
  | 4 => ("PuppetTheatre$Play", "clock", "I", false)
  | 5 => ("PuppetTheatre$Play", "lost", "I", false)
  | 6 => ("PuppetTheatre$Play", "restless", "I", false)
  | 7 => ("PuppetTheatre$Play", "queue", "[I", true)
  | 8 => ("PuppetTheatre$Play", "queued", "I", false)
  | 9 => ("PuppetTheatre$Play", "taken", "[I", true)
  | _ => ("PuppetTheatre$Play", "takenCount", "I", false)
def tyX3 : Nat → FieldType := fun k => match k with
  | 0 => .object "PuppetTheatre$Chart"
  | 1 => .object "PuppetTheatre$Situation"
  | 2 => .array .int
  | 3 => .int
  | 4 => .int
  | 5 => .int
  | 6 => .int
  | 7 => .array .int
  | 8 => .int
  | 9 => .array .int
  | _ => .int
abbrev wsX30 : List Cond := u_ws RX3 TX3 11
theorem nmX3 : ∀ a, a < 11 → ∀ b, b < 11 → a ≠ b → (TX3 a).2.1 ≠ (TX3 b).2.1 := by decide +kernel
theorem tyX3_ok : ∀ k, k < 11 → parseFieldDescriptor (TX3 k).2.2.1 = some (tyX3 k) := by decide +kernel
abbrev cX3_init : ByteArray := prog_5_method_1_code
def yX3_init : MethodName := ⟨RX3, "<init>", "(LPuppetTheatre$Chart;)V"⟩
abbrev cX3_reset : ByteArray := prog_5_method_2_code
def yX3_reset : MethodName := ⟨RX3, "reset", "()V"⟩
abbrev cX3_isAtEnd : ByteArray := prog_5_method_3_code
def yX3_isAtEnd : MethodName := ⟨RX3, "isAtEnd", "()Z"⟩
abbrev cX3_proceed : ByteArray := prog_5_method_4_code
def yX3_proceed : MethodName := ⟨RX3, "proceed", "(I)I"⟩
abbrev cX3_growOlder : ByteArray := prog_5_method_5_code
def yX3_growOlder : MethodName := ⟨RX3, "growOlder", "()V"⟩
abbrev cX3_raise : ByteArray := prog_5_method_6_code
def yX3_raise : MethodName := ⟨RX3, "raise", "(I)V"⟩
abbrev cX3_loseQueue : ByteArray := prog_5_method_7_code
def yX3_loseQueue : MethodName := ⟨RX3, "loseQueue", "()V"⟩
abbrev cX3_nextEvent : ByteArray := prog_5_method_8_code
def yX3_nextEvent : MethodName := ⟨RX3, "nextEvent", "()I"⟩
abbrev cX3_step : ByteArray := prog_5_method_9_code
def yX3_step : MethodName := ⟨RX3, "step", "(I)I"⟩
abbrev cX3_openBy : ByteArray := prog_5_method_10_code
def yX3_openBy : MethodName := ⟨RX3, "openBy", "(I)I"⟩
abbrev cX3_isOpen : ByteArray := prog_5_method_11_code
def yX3_isOpen : MethodName := ⟨RX3, "isOpen", "(LPuppetTheatre$Transition;I)Z"⟩
abbrev cX3_choose : ByteArray := prog_5_method_12_code
def yX3_choose : MethodName := ⟨RX3, "choose", "(I)V"⟩
abbrev cX3_nearestOpen : ByteArray := prog_5_method_13_code
def yX3_nearestOpen : MethodName := ⟨RX3, "nearestOpen", "(II)I"⟩
abbrev cX3_smallestOf : ByteArray := prog_5_method_14_code
def yX3_smallestOf : MethodName := ⟨RX3, "smallestOf", "(I)I"⟩
abbrev cX3_takeIfFree : ByteArray := prog_5_method_15_code
def yX3_takeIfFree : MethodName := ⟨RX3, "takeIfFree", "(I)V"⟩
abbrev cX3_leftBy : ByteArray := prog_5_method_16_code
def yX3_leftBy : MethodName := ⟨RX3, "leftBy", "(LPuppetTheatre$Transition;)I"⟩
abbrev cX3_makeRecords : ByteArray := prog_5_method_17_code
def yX3_makeRecords : MethodName := ⟨RX3, "makeRecords", "(I)V"⟩
abbrev cX3_leave : ByteArray := prog_5_method_18_code
def yX3_leave : MethodName := ⟨RX3, "leave", "(I)V"⟩
abbrev cX3_enter : ByteArray := prog_5_method_19_code
def yX3_enter : MethodName := ⟨RX3, "enter", "(I)V"⟩
abbrev cX3_targetsOf : ByteArray := prog_5_method_20_code
def yX3_targetsOf : MethodName := ⟨RX3, "targetsOf", "(LPuppetTheatre$Transition;)I"⟩
abbrev cX3_act : ByteArray := prog_5_method_21_code
def yX3_act : MethodName := ⟨RX3, "act", "(LPuppetTheatre$Action;)V"⟩
def RX4 : String := "PuppetTheatre$Situation"
def TX4 : u_T := fun k => match k with
  | 0 => ("PuppetTheatre$Situation", "ages", "[I", true)
  | 1 => ("PuppetTheatre$Situation", "records", "[I", true)
  | 2 => ("PuppetTheatre$Situation", "variables", "[I", true)
  | _ => ("PuppetTheatre$Situation", "active", "I", false)
def tyX4 : Nat → FieldType := fun k => match k with
  | 0 => .array .int
  | 1 => .array .int
  | 2 => .array .int
  | _ => .int
abbrev wsX40 : List Cond := u_ws RX4 TX4 4
theorem nmX4 : ∀ a, a < 4 → ∀ b, b < 4 → a ≠ b → (TX4 a).2.1 ≠ (TX4 b).2.1 := by decide +kernel
theorem tyX4_ok : ∀ k, k < 4 → parseFieldDescriptor (TX4 k).2.2.1 = some (tyX4 k) := by decide +kernel
abbrev cX4_init : ByteArray := prog_6_method_1_code
def yX4_init : MethodName := ⟨RX4, "<init>", "()V"⟩
abbrev cX4_deactivate : ByteArray := prog_6_method_2_code
def yX4_deactivate : MethodName := ⟨RX4, "deactivate", "()V"⟩
abbrev cX4_clear : ByteArray := prog_6_method_3_code
def yX4_clear : MethodName := ⟨RX4, "clear", "()V"⟩
abbrev cX4_add : ByteArray := prog_6_method_4_code
def yX4_add : MethodName := ⟨RX4, "add", "(II)V"⟩
abbrev cX4_copyFrom : ByteArray := prog_6_method_5_code
def yX4_copyFrom : MethodName := ⟨RX4, "copyFrom", "(LPuppetTheatre$Situation;)V"⟩
abbrev cX4_isSameAs : ByteArray := prog_6_method_6_code
def yX4_isSameAs : MethodName := ⟨RX4, "isSameAs", "(LPuppetTheatre$Situation;)Z"⟩
def RX5 : String := "PuppetTheatre$State"
def TX5 : u_T := fun k => match k with
  | 0 => ("PuppetTheatre$State", "entering", "LPuppetTheatre$Action;", true)
  | 1 => ("PuppetTheatre$State", "leaving", "LPuppetTheatre$Action;", true)
  | 2 => ("PuppetTheatre$State", "kind", "I", false)
  | 3 => ("PuppetTheatre$State", "parent", "I", false)
  | 4 => ("PuppetTheatre$State", "first", "I", false)
  | 5 => ("PuppetTheatre$State", "parts", "I", false)
  | 6 => ("PuppetTheatre$State", "filledWith", "I", false)
  | 7 => ("PuppetTheatre$State", "beneath", "I", false)
  | _ => ("PuppetTheatre$State", "departing", "I", false)
def tyX5 : Nat → FieldType := fun k => match k with
  | 0 => .object "PuppetTheatre$Action"
  | 1 => .object "PuppetTheatre$Action"
  | 2 => .int
  | 3 => .int
  | 4 => .int
  | 5 => .int
  | 6 => .int
  | 7 => .int
  | _ => .int
abbrev wsX50 : List Cond := u_ws RX5 TX5 9
theorem nmX5 : ∀ a, a < 9 → ∀ b, b < 9 → a ≠ b → (TX5 a).2.1 ≠ (TX5 b).2.1 := by decide +kernel
theorem tyX5_ok : ∀ k, k < 9 → parseFieldDescriptor (TX5 k).2.2.1 = some (tyX5 k) := by decide +kernel
abbrev cX5_init : ByteArray := prog_7_method_1_code
def yX5_init : MethodName := ⟨RX5, "<init>", "()V"⟩
abbrev cX5_isMark : ByteArray := prog_7_method_2_code
def yX5_isMark : MethodName := ⟨RX5, "isMark", "()Z"⟩
abbrev cX5_isHolder : ByteArray := prog_7_method_3_code
def yX5_isHolder : MethodName := ⟨RX5, "isHolder", "()Z"⟩
abbrev cX5_putFirst : ByteArray := prog_7_method_4_code
def yX5_putFirst : MethodName := ⟨RX5, "putFirst", "(I)V"⟩
abbrev cX5_putPart : ByteArray := prog_7_method_5_code
def yX5_putPart : MethodName := ⟨RX5, "putPart", "(I)V"⟩
def RX6 : String := "PuppetTheatre$Transition"
def TX6 : u_T := fun k => match k with
  | 0 => ("PuppetTheatre$Transition", "action", "LPuppetTheatre$Action;", true)
  | 1 => ("PuppetTheatre$Transition", "from", "I", false)
  | 2 => ("PuppetTheatre$Transition", "trigger", "I", false)
  | 3 => ("PuppetTheatre$Transition", "n", "I", false)
  | 4 => ("PuppetTheatre$Transition", "to", "I", false)
  | 5 => ("PuppetTheatre$Transition", "scope", "I", false)
  | 6 => ("PuppetTheatre$Transition", "how", "I", false)
  | 7 => ("PuppetTheatre$Transition", "variable", "I", false)
  | _ => ("PuppetTheatre$Transition", "bound", "I", false)
def tyX6 : Nat → FieldType := fun k => match k with
  | 0 => .object "PuppetTheatre$Action"
  | 1 => .int
  | 2 => .int
  | 3 => .int
  | 4 => .int
  | 5 => .int
  | 6 => .int
  | 7 => .int
  | _ => .int
abbrev wsX60 : List Cond := u_ws RX6 TX6 9
theorem nmX6 : ∀ a, a < 9 → ∀ b, b < 9 → a ≠ b → (TX6 a).2.1 ≠ (TX6 b).2.1 := by decide +kernel
theorem tyX6_ok : ∀ k, k < 9 → parseFieldDescriptor (TX6 k).2.2.1 = some (tyX6 k) := by decide +kernel
abbrev cX6_init : ByteArray := prog_8_method_1_code
def yX6_init : MethodName := ⟨RX6, "<init>", "()V"⟩
abbrev cX6_isAllowed : ByteArray := prog_8_method_2_code
def yX6_isAllowed : MethodName := ⟨RX6, "isAllowed", "([I)Z"⟩
def RX7 : String := "PuppetTheatre"
def TX7 : u_T := fun k => match k with
  | 0 => ("PuppetTheatre", "chart", "LPuppetTheatre$Chart;", true)
  | 1 => ("PuppetTheatre", "play", "LPuppetTheatre$Play;", true)
  | 2 => ("PuppetTheatre", "trial", "LPuppetTheatre$Play;", true)
  | 3 => ("PuppetTheatre", "look", "LPuppetTheatre$Look;", true)
  | _ => ("PuppetTheatre", "running", "Z", false)
def tyX7 : Nat → FieldType := fun k => match k with
  | 0 => .object "PuppetTheatre$Chart"
  | 1 => .object "PuppetTheatre$Play"
  | 2 => .object "PuppetTheatre$Play"
  | 3 => .object "PuppetTheatre$Look"
  | _ => .boolean
abbrev wsX70 : List Cond := u_ws RX7 TX7 5
theorem nmX7 : ∀ a, a < 5 → ∀ b, b < 5 → a ≠ b → (TX7 a).2.1 ≠ (TX7 b).2.1 := by decide +kernel
theorem tyX7_ok : ∀ k, k < 5 → parseFieldDescriptor (TX7 k).2.2.1 = some (tyX7 k) := by decide +kernel
abbrev cX7_init : ByteArray := prog_1_method_1_code
def yX7_init : MethodName := ⟨RX7, "<init>", "()V"⟩
abbrev cX7_addState : ByteArray := prog_1_method_2_code
def yX7_addState : MethodName := ⟨RX7, "addState", "(II)I"⟩
abbrev cX7_setFirst : ByteArray := prog_1_method_3_code
def yX7_setFirst : MethodName := ⟨RX7, "setFirst", "(II)I"⟩
abbrev cX7_setDoing : ByteArray := prog_1_method_4_code
def yX7_setDoing : MethodName := ⟨RX7, "setDoing", "(IZIII)I"⟩
abbrev cX7_addTransition : ByteArray := prog_1_method_5_code
def yX7_addTransition : MethodName := ⟨RX7, "addTransition", "(IIII)I"⟩
abbrev cX7_setGuard : ByteArray := prog_1_method_6_code
def yX7_setGuard : MethodName := ⟨RX7, "setGuard", "(IIII)I"⟩
abbrev cX7_setAction : ByteArray := prog_1_method_7_code
def yX7_setAction : MethodName := ⟨RX7, "setAction", "(IIII)I"⟩
abbrev cX7_start : ByteArray := prog_1_method_8_code
def yX7_start : MethodName := ⟨RX7, "start", "()I"⟩
abbrev cX7_stop : ByteArray := prog_1_method_9_code
def yX7_stop : MethodName := ⟨RX7, "stop", "()I"⟩
abbrev cX7_send : ByteArray := prog_1_method_10_code
def yX7_send : MethodName := ⟨RX7, "send", "(I)I"⟩
abbrev cX7_tick : ByteArray := prog_1_method_11_code
def yX7_tick : MethodName := ⟨RX7, "tick", "(I)I"⟩
abbrev cX7_states : ByteArray := prog_1_method_12_code
def yX7_states : MethodName := ⟨RX7, "states", "()I"⟩
abbrev cX7_transitions : ByteArray := prog_1_method_13_code
def yX7_transitions : MethodName := ⟨RX7, "transitions", "()I"⟩
abbrev cX7_ofState : ByteArray := prog_1_method_14_code
def yX7_ofState : MethodName := ⟨RX7, "ofState", "(II)I"⟩
abbrev cX7_isRunning : ByteArray := prog_1_method_15_code
def yX7_isRunning : MethodName := ⟨RX7, "isRunning", "()Z"⟩
abbrev cX7_active : ByteArray := prog_1_method_16_code
def yX7_active : MethodName := ⟨RX7, "active", "()I"⟩
abbrev cX7_isOver : ByteArray := prog_1_method_17_code
def yX7_isOver : MethodName := ⟨RX7, "isOver", "()Z"⟩
abbrev cX7_isEnded : ByteArray := prog_1_method_18_code
def yX7_isEnded : MethodName := ⟨RX7, "isEnded", "(I)Z"⟩
abbrev cX7_ageOf : ByteArray := prog_1_method_19_code
def yX7_ageOf : MethodName := ⟨RX7, "ageOf", "(I)I"⟩
abbrev cX7_record : ByteArray := prog_1_method_20_code
def yX7_record : MethodName := ⟨RX7, "record", "(I)I"⟩
abbrev cX7_variable : ByteArray := prog_1_method_21_code
def yX7_variable : MethodName := ⟨RX7, "variable", "(I)I"⟩
abbrev cX7_clock : ByteArray := prog_1_method_22_code
def yX7_clock : MethodName := ⟨RX7, "clock", "()I"⟩
abbrev cX7_fired : ByteArray := prog_1_method_23_code
def yX7_fired : MethodName := ⟨RX7, "fired", "(I)I"⟩
abbrev cX7_covered : ByteArray := prog_1_method_24_code
def yX7_covered : MethodName := ⟨RX7, "covered", "()I"⟩
abbrev cX7_lost : ByteArray := prog_1_method_25_code
def yX7_lost : MethodName := ⟨RX7, "lost", "()I"⟩
abbrev cX7_restless : ByteArray := prog_1_method_26_code
def yX7_restless : MethodName := ⟨RX7, "restless", "()I"⟩
abbrev cX7_wouldFire : ByteArray := prog_1_method_27_code
def yX7_wouldFire : MethodName := ⟨RX7, "wouldFire", "(I)I"⟩
abbrev cX7_wouldBe : ByteArray := prog_1_method_28_code
def yX7_wouldBe : MethodName := ⟨RX7, "wouldBe", "(I)I"⟩
abbrev cX7_open : ByteArray := prog_1_method_29_code
def yX7_open : MethodName := ⟨RX7, "open", "()I"⟩
abbrev cX7_rowTo : ByteArray := prog_1_method_30_code
def yX7_rowTo : MethodName := ⟨RX7, "rowTo", "(II)I"⟩
abbrev cX7_rowFor : ByteArray := prog_1_method_31_code
def yX7_rowFor : MethodName := ⟨RX7, "rowFor", "(II)I"⟩
abbrev cX7_rowAt : ByteArray := prog_1_method_32_code
def yX7_rowAt : MethodName := ⟨RX7, "rowAt", "(I)I"⟩
abbrev cX7_looked : ByteArray := prog_1_method_33_code
def yX7_looked : MethodName := ⟨RX7, "looked", "()I"⟩
abbrev cX7_meanAge : ByteArray := prog_1_method_34_code
def yX7_meanAge : MethodName := ⟨RX7, "meanAge", "()D"⟩
abbrev cX7_digest : ByteArray := prog_1_method_35_code
def yX7_digest : MethodName := ⟨RX7, "digest", "()J"⟩
abbrev cX7_digestOfStates : ByteArray := prog_1_method_36_code
def yX7_digestOfStates : MethodName := ⟨RX7, "digestOfStates", "(J)J"⟩
abbrev cX7_checkResting : ByteArray := prog_1_method_37_code
def yX7_checkResting : MethodName := ⟨RX7, "checkResting", "()V"⟩
abbrev cX7_checkRunning : ByteArray := prog_1_method_38_code
def yX7_checkRunning : MethodName := ⟨RX7, "checkRunning", "()V"⟩
abbrev cX7_checkState : ByteArray := prog_1_method_39_code
def yX7_checkState : MethodName := ⟨RX7, "checkState", "(I)V"⟩
abbrev cX7_checkTransition : ByteArray := prog_1_method_40_code
def yX7_checkTransition : MethodName := ⟨RX7, "checkTransition", "(I)V"⟩
abbrev cX7_checkEvent : ByteArray := prog_1_method_41_code
def yX7_checkEvent : MethodName := ⟨RX7, "checkEvent", "(I)V"⟩
abbrev cX7_checkMost : ByteArray := prog_1_method_42_code
def yX7_checkMost : MethodName := ⟨RX7, "checkMost", "(I)V"⟩
abbrev cX7_isTrigger : ByteArray := prog_1_method_43_code
def yX7_isTrigger : MethodName := ⟨RX7, "isTrigger", "(II)Z"⟩
abbrev cX7_isGuard : ByteArray := prog_1_method_44_code
def yX7_isGuard : MethodName := ⟨RX7, "isGuard", "(III)Z"⟩
abbrev cX7_isAction : ByteArray := prog_1_method_45_code
def yX7_isAction : MethodName := ⟨RX7, "isAction", "(III)Z"⟩
abbrev cX7_isNumber : ByteArray := prog_1_method_46_code
def yX7_isNumber : MethodName := ⟨RX7, "isNumber", "(I)Z"⟩
abbrev cX7_isWithin : ByteArray := prog_1_method_47_code
def yX7_isWithin : MethodName := ⟨RX7, "isWithin", "(III)Z"⟩
abbrev cX7_setOf : ByteArray := prog_1_method_48_code
def yX7_setOf : MethodName := ⟨RX7, "setOf", "(I)I"⟩
abbrev cX7_has : ByteArray := prog_1_method_49_code
def yX7_has : MethodName := ⟨RX7, "has", "(II)Z"⟩
def RX8 : String := "PuppetTheatreModel$Chart"
def TX8 : u_T := fun k => match k with
  | 0 => ("PuppetTheatreModel$Chart", "states", "Ljava/util/ArrayList;", true)
  | _ => ("PuppetTheatreModel$Chart", "transitions", "Ljava/util/ArrayList;", true)
def tyX8 : Nat → FieldType := fun k => match k with
  | 0 => .object "java/util/ArrayList"
  | _ => .object "java/util/ArrayList"
abbrev wsX80 : List Cond := u_ws RX8 TX8 2
theorem nmX8 : ∀ a, a < 2 → ∀ b, b < 2 → a ≠ b → (TX8 a).2.1 ≠ (TX8 b).2.1 := by decide +kernel
theorem tyX8_ok : ∀ k, k < 2 → parseFieldDescriptor (TX8 k).2.2.1 = some (tyX8 k) := by decide +kernel
abbrev cX8_init : ByteArray := prog_11_method_1_code
def yX8_init : MethodName := ⟨RX8, "<init>", "()V"⟩
abbrev cX8_parent : ByteArray := prog_11_method_2_code
def yX8_parent : MethodName := ⟨RX8, "parent", "(I)I"⟩
abbrev cX8_kind : ByteArray := prog_11_method_3_code
def yX8_kind : MethodName := ⟨RX8, "kind", "(I)I"⟩
abbrev cX8_parts : ByteArray := prog_11_method_4_code
def yX8_parts : MethodName := ⟨RX8, "parts", "(I)I"⟩
abbrev cX8_isLeaf : ByteArray := prog_11_method_5_code
def yX8_isLeaf : MethodName := ⟨RX8, "isLeaf", "(I)Z"⟩
abbrev cX8_first : ByteArray := prog_11_method_6_code
def yX8_first : MethodName := ⟨RX8, "first", "(I)I"⟩
abbrev cX8_isBeneath : ByteArray := prog_11_method_7_code
def yX8_isBeneath : MethodName := ⟨RX8, "isBeneath", "(II)Z"⟩
abbrev cX8_beneath : ByteArray := prog_11_method_8_code
def yX8_beneath : MethodName := ⟨RX8, "beneath", "(I)I"⟩
abbrev cX8_scope : ByteArray := prog_11_method_9_code
def yX8_scope : MethodName := ⟨RX8, "scope", "(LPuppetTheatreModel$Transition;)I"⟩
abbrev cX8_filled : ByteArray := prog_11_method_10_code
def yX8_filled : MethodName := ⟨RX8, "filled", "(I)I"⟩
abbrev cX8_into : ByteArray := prog_11_method_11_code
def yX8_into : MethodName := ⟨RX8, "into", "(II)I"⟩
def RX9 : String := "PuppetTheatreModel$Run"
def TX9 : u_T := fun k => match k with
  | 0 => ("PuppetTheatreModel$Run", "isRunning", "Z", false)
  | 1 => ("PuppetTheatreModel$Run", "active", "I", false)
  | 2 => ("PuppetTheatreModel$Run", "ages", "[I", true)
  | 3 => ("PuppetTheatreModel$Run", "records", "[I", true)
  | 4 => ("PuppetTheatreModel$Run", "variables", "[I", true)
  | 5 => ("PuppetTheatreModel$Run", "fired", "[I", true)
  | 6 => ("PuppetTheatreModel$Run", "queue", "Ljava/util/ArrayList;", false)
  | 7 => ("PuppetTheatreModel$Run", "clock", "I", false)
  | 8 => ("PuppetTheatreModel$Run", "lost", "I", false)
  | 9 => ("PuppetTheatreModel$Run", "restless", "I", false)
  | _ => ("PuppetTheatreModel$Run", "this$0", "LPuppetTheatreModel;", true)
def tyX9 : Nat → FieldType := fun k => match k with
  | 0 => .boolean
  | 1 => .int
  | 2 => .array .int
  | 3 => .array .int
  | 4 => .array .int
  | 5 => .array .int
  | 6 => .object "java/util/ArrayList"
  | 7 => .int
  | 8 => .int
  | 9 => .int
  | _ => .object "PuppetTheatreModel"
abbrev wsX90 : List Cond := u_ws RX9 TX9 11
theorem nmX9 : ∀ a, a < 11 → ∀ b, b < 11 → a ≠ b → (TX9 a).2.1 ≠ (TX9 b).2.1 := by decide +kernel
theorem tyX9_ok : ∀ k, k < 11 → parseFieldDescriptor (TX9 k).2.2.1 = some (tyX9 k) := by decide +kernel
abbrev cX9_init : ByteArray := prog_12_method_1_code
def yX9_init : MethodName := ⟨RX9, "<init>", "(LPuppetTheatreModel;)V"⟩
abbrev cX9_copy : ByteArray := prog_12_method_2_code
def yX9_copy : MethodName := ⟨RX9, "copy", "()LPuppetTheatreModel$Run;"⟩
abbrev cX9_isSame : ByteArray := prog_12_method_3_code
def yX9_isSame : MethodName := ⟨RX9, "isSame", "(LPuppetTheatreModel$Run;)Z"⟩
abbrev cX9_isOver : ByteArray := prog_12_method_4_code
def yX9_isOver : MethodName := ⟨RX9, "isOver", "()Z"⟩
abbrev cX9_isEnded : ByteArray := prog_12_method_5_code
def yX9_isEnded : MethodName := ⟨RX9, "isEnded", "(I)Z"⟩
abbrev cX9_act : ByteArray := prog_12_method_6_code
def yX9_act : MethodName := ⟨RX9, "act", "([I)V"⟩
abbrev cX9_enter : ByteArray := prog_12_method_7_code
def yX9_enter : MethodName := ⟨RX9, "enter", "(I)V"⟩
abbrev cX9_holds : ByteArray := prog_12_method_8_code
def yX9_holds : MethodName := ⟨RX9, "holds", "([I)Z"⟩
abbrev cX9_isOpen : ByteArray := prog_12_method_9_code
def yX9_isOpen : MethodName := ⟨RX9, "isOpen", "(LPuppetTheatreModel$Transition;II)Z"⟩
abbrev cX9_chosen : ByteArray := prog_12_method_10_code
def yX9_chosen : MethodName := ⟨RX9, "chosen", "(III)I"⟩
abbrev cX9_leaves : ByteArray := prog_12_method_11_code
def yX9_leaves : MethodName := ⟨RX9, "leaves", "(I)I"⟩
abbrev cX9_taken : ByteArray := prog_12_method_12_code
def yX9_taken : MethodName := ⟨RX9, "taken", "(II)Ljava/util/ArrayList;"⟩
abbrev cX9_step : ByteArray := prog_12_method_13_code
def yX9_step : MethodName := ⟨RX9, "step", "(II)I"⟩
abbrev cX9_activeLeaves : ByteArray := prog_12_method_14_code
def yX9_activeLeaves : MethodName := ⟨RX9, "activeLeaves", "(I)I"⟩
abbrev cX9_into : ByteArray := prog_12_method_15_code
def yX9_into : MethodName := ⟨RX9, "into", "(LPuppetTheatreModel$Transition;)I"⟩
abbrev cX9_settle : ByteArray := prog_12_method_16_code
def yX9_settle : MethodName := ⟨RX9, "settle", "(I)I"⟩
abbrev cX9_start : ByteArray := prog_12_method_17_code
def yX9_start : MethodName := ⟨RX9, "start", "()I"⟩
abbrev cX9_send : ByteArray := prog_12_method_18_code
def yX9_send : MethodName := ⟨RX9, "send", "(I)I"⟩
abbrev cX9_tick : ByteArray := prog_12_method_19_code
def yX9_tick : MethodName := ⟨RX9, "tick", "()I"⟩
abbrev cX9_call : ByteArray := prog_12_method_20_code
def yX9_call : MethodName := ⟨RX9, "call", "(I)V"⟩
def RX10 : String := "PuppetTheatreModel$State"
def TX10 : u_T := fun k => match k with
  | 0 => ("PuppetTheatreModel$State", "parent", "I", true)
  | 1 => ("PuppetTheatreModel$State", "kind", "I", true)
  | 2 => ("PuppetTheatreModel$State", "first", "I", false)
  | 3 => ("PuppetTheatreModel$State", "entering", "[I", false)
  | _ => ("PuppetTheatreModel$State", "leaving", "[I", false)
def tyX10 : Nat → FieldType := fun k => match k with
  | 0 => .int
  | 1 => .int
  | 2 => .int
  | 3 => .array .int
  | _ => .array .int
abbrev wsX100 : List Cond := u_ws RX10 TX10 5
theorem nmX10 : ∀ a, a < 5 → ∀ b, b < 5 → a ≠ b → (TX10 a).2.1 ≠ (TX10 b).2.1 := by decide +kernel
theorem tyX10_ok : ∀ k, k < 5 → parseFieldDescriptor (TX10 k).2.2.1 = some (tyX10 k) := by decide +kernel
abbrev cX10_init : ByteArray := prog_13_method_1_code
def yX10_init : MethodName := ⟨RX10, "<init>", "(II)V"⟩
abbrev cX10_isMark : ByteArray := prog_13_method_2_code
def yX10_isMark : MethodName := ⟨RX10, "isMark", "()Z"⟩
abbrev cX10_isOpen : ByteArray := prog_13_method_3_code
def yX10_isOpen : MethodName := ⟨RX10, "isOpen", "()Z"⟩
def RX11 : String := "PuppetTheatreModel$Transition"
def TX11 : u_T := fun k => match k with
  | 0 => ("PuppetTheatreModel$Transition", "from", "I", true)
  | 1 => ("PuppetTheatreModel$Transition", "trigger", "I", true)
  | 2 => ("PuppetTheatreModel$Transition", "n", "I", true)
  | 3 => ("PuppetTheatreModel$Transition", "to", "I", true)
  | 4 => ("PuppetTheatreModel$Transition", "guard", "[I", false)
  | _ => ("PuppetTheatreModel$Transition", "action", "[I", false)
def tyX11 : Nat → FieldType := fun k => match k with
  | 0 => .int
  | 1 => .int
  | 2 => .int
  | 3 => .int
  | 4 => .array .int
  | _ => .array .int
abbrev wsX110 : List Cond := u_ws RX11 TX11 6
theorem nmX11 : ∀ a, a < 6 → ∀ b, b < 6 → a ≠ b → (TX11 a).2.1 ≠ (TX11 b).2.1 := by decide +kernel
theorem tyX11_ok : ∀ k, k < 6 → parseFieldDescriptor (TX11 k).2.2.1 = some (tyX11 k) := by decide +kernel
abbrev cX11_init : ByteArray := prog_14_method_1_code
def yX11_init : MethodName := ⟨RX11, "<init>", "(IIII)V"⟩
def RX12 : String := "PuppetTheatreModel"
def TX12 : u_T := fun k => match k with
  | 0 => ("PuppetTheatreModel", "thrown", "I", false)
  | 1 => ("PuppetTheatreModel", "chart", "LPuppetTheatreModel$Chart;", true)
  | 2 => ("PuppetTheatreModel", "run", "LPuppetTheatreModel$Run;", true)
  | 3 => ("PuppetTheatreModel", "row", "[I", false)
  | _ => ("PuppetTheatreModel", "looked", "I", false)
def tyX12 : Nat → FieldType := fun k => match k with
  | 0 => .int
  | 1 => .object "PuppetTheatreModel$Chart"
  | 2 => .object "PuppetTheatreModel$Run"
  | 3 => .array .int
  | _ => .int
abbrev wsX120 : List Cond := u_ws RX12 TX12 5
theorem nmX12 : ∀ a, a < 5 → ∀ b, b < 5 → a ≠ b → (TX12 a).2.1 ≠ (TX12 b).2.1 := by decide +kernel
theorem tyX12_ok : ∀ k, k < 5 → parseFieldDescriptor (TX12 k).2.2.1 = some (tyX12 k) := by decide +kernel
abbrev cX12_has : ByteArray := prog_10_method_1_code
def yX12_has : MethodName := ⟨RX12, "has", "(II)Z"⟩
abbrev cX12_init : ByteArray := prog_10_method_2_code
def yX12_init : MethodName := ⟨RX12, "<init>", "()V"⟩
abbrev cX12_thrown : ByteArray := prog_10_method_3_code
def yX12_thrown : MethodName := ⟨RX12, "thrown", "()I"⟩
abbrev cX12_isIn : ByteArray := prog_10_method_4_code
def yX12_isIn : MethodName := ⟨RX12, "isIn", "(III)Z"⟩
abbrev cX12_refuse : ByteArray := prog_10_method_5_code
def yX12_refuse : MethodName := ⟨RX12, "refuse", "(ZI)Z"⟩
abbrev cX12_start : ByteArray := prog_10_method_6_code
def yX12_start : MethodName := ⟨RX12, "start", "(ZI)Z"⟩
abbrev cX12_plain : ByteArray := prog_10_method_7_code
def yX12_plain : MethodName := ⟨RX12, "plain", "(I)I"⟩
abbrev cX12_isNoState : ByteArray := prog_10_method_8_code
def yX12_isNoState : MethodName := ⟨RX12, "isNoState", "(I)Z"⟩
abbrev cX12_isNoTransition : ByteArray := prog_10_method_9_code
def yX12_isNoTransition : MethodName := ⟨RX12, "isNoTransition", "(I)Z"⟩
abbrev cX12_addState : ByteArray := prog_10_method_10_code
def yX12_addState : MethodName := ⟨RX12, "addState", "(II)I"⟩
abbrev cX12_setFirst : ByteArray := prog_10_method_11_code
def yX12_setFirst : MethodName := ⟨RX12, "setFirst", "(II)I"⟩
abbrev cX12_isNoAction : ByteArray := prog_10_method_12_code
def yX12_isNoAction : MethodName := ⟨RX12, "isNoAction", "(III)Z"⟩
abbrev cX12_setDoing : ByteArray := prog_10_method_13_code
def yX12_setDoing : MethodName := ⟨RX12, "setDoing", "(IZIII)I"⟩
abbrev cX12_addTransition : ByteArray := prog_10_method_14_code
def yX12_addTransition : MethodName := ⟨RX12, "addTransition", "(IIII)I"⟩
abbrev cX12_setGuard : ByteArray := prog_10_method_15_code
def yX12_setGuard : MethodName := ⟨RX12, "setGuard", "(IIII)I"⟩
abbrev cX12_setAction : ByteArray := prog_10_method_16_code
def yX12_setAction : MethodName := ⟨RX12, "setAction", "(IIII)I"⟩
abbrev cX12_start_ : ByteArray := prog_10_method_17_code
def yX12_start_ : MethodName := ⟨RX12, "start", "()I"⟩
abbrev cX12_stop : ByteArray := prog_10_method_18_code
def yX12_stop : MethodName := ⟨RX12, "stop", "()I"⟩
abbrev cX12_send : ByteArray := prog_10_method_19_code
def yX12_send : MethodName := ⟨RX12, "send", "(I)I"⟩
abbrev cX12_tick : ByteArray := prog_10_method_20_code
def yX12_tick : MethodName := ⟨RX12, "tick", "(I)I"⟩
abbrev cX12_states : ByteArray := prog_10_method_21_code
def yX12_states : MethodName := ⟨RX12, "states", "()I"⟩
abbrev cX12_transitions : ByteArray := prog_10_method_22_code
def yX12_transitions : MethodName := ⟨RX12, "transitions", "()I"⟩
abbrev cX12_of : ByteArray := prog_10_method_23_code
def yX12_of : MethodName := ⟨RX12, "of", "(II)I"⟩
abbrev cX12_ofState : ByteArray := prog_10_method_24_code
def yX12_ofState : MethodName := ⟨RX12, "ofState", "(II)I"⟩
abbrev cX12_isRunning : ByteArray := prog_10_method_25_code
def yX12_isRunning : MethodName := ⟨RX12, "isRunning", "()Z"⟩
abbrev cX12_active : ByteArray := prog_10_method_26_code
def yX12_active : MethodName := ⟨RX12, "active", "()I"⟩
abbrev cX12_isOver : ByteArray := prog_10_method_27_code
def yX12_isOver : MethodName := ⟨RX12, "isOver", "()Z"⟩
abbrev cX12_isEnded : ByteArray := prog_10_method_28_code
def yX12_isEnded : MethodName := ⟨RX12, "isEnded", "(I)Z"⟩
abbrev cX12_age : ByteArray := prog_10_method_29_code
def yX12_age : MethodName := ⟨RX12, "age", "(I)I"⟩
abbrev cX12_ageOf : ByteArray := prog_10_method_30_code
def yX12_ageOf : MethodName := ⟨RX12, "ageOf", "(I)I"⟩
abbrev cX12_record : ByteArray := prog_10_method_31_code
def yX12_record : MethodName := ⟨RX12, "record", "(I)I"⟩
abbrev cX12_variable : ByteArray := prog_10_method_32_code
def yX12_variable : MethodName := ⟨RX12, "variable", "(I)I"⟩
abbrev cX12_clock : ByteArray := prog_10_method_33_code
def yX12_clock : MethodName := ⟨RX12, "clock", "()I"⟩
abbrev cX12_fired : ByteArray := prog_10_method_34_code
def yX12_fired : MethodName := ⟨RX12, "fired", "(I)I"⟩
abbrev cX12_covers : ByteArray := prog_10_method_35_code
def yX12_covers : MethodName := ⟨RX12, "covers", "()I"⟩
abbrev cX12_covered : ByteArray := prog_10_method_36_code
def yX12_covered : MethodName := ⟨RX12, "covered", "()I"⟩
abbrev cX12_lost : ByteArray := prog_10_method_37_code
def yX12_lost : MethodName := ⟨RX12, "lost", "()I"⟩
abbrev cX12_restless : ByteArray := prog_10_method_38_code
def yX12_restless : MethodName := ⟨RX12, "restless", "()I"⟩
abbrev cX12_isNoEvent : ByteArray := prog_10_method_39_code
def yX12_isNoEvent : MethodName := ⟨RX12, "isNoEvent", "(I)Z"⟩
abbrev cX12_wouldFire : ByteArray := prog_10_method_40_code
def yX12_wouldFire : MethodName := ⟨RX12, "wouldFire", "(I)I"⟩
abbrev cX12_wouldBe : ByteArray := prog_10_method_41_code
def yX12_wouldBe : MethodName := ⟨RX12, "wouldBe", "(I)I"⟩
abbrev cX12_open : ByteArray := prog_10_method_42_code
def yX12_open : MethodName := ⟨RX12, "open", "()I"⟩
abbrev cX12_look : ByteArray := prog_10_method_43_code
def yX12_look : MethodName := ⟨RX12, "look", "(III)I"⟩
abbrev cX12_rowTo : ByteArray := prog_10_method_44_code
def yX12_rowTo : MethodName := ⟨RX12, "rowTo", "(II)I"⟩
abbrev cX12_rowFor : ByteArray := prog_10_method_45_code
def yX12_rowFor : MethodName := ⟨RX12, "rowFor", "(II)I"⟩
abbrev cX12_rowed : ByteArray := prog_10_method_46_code
def yX12_rowed : MethodName := ⟨RX12, "rowed", "(I)I"⟩
abbrev cX12_rowAt : ByteArray := prog_10_method_47_code
def yX12_rowAt : MethodName := ⟨RX12, "rowAt", "(I)I"⟩
abbrev cX12_looked : ByteArray := prog_10_method_48_code
def yX12_looked : MethodName := ⟨RX12, "looked", "()I"⟩
abbrev cX12_meanAge : ByteArray := prog_10_method_49_code
def yX12_meanAge : MethodName := ⟨RX12, "meanAge", "()D"⟩
abbrev cX12_add : ByteArray := prog_10_method_50_code
def yX12_add : MethodName := ⟨RX12, "add", "(JJ)J"⟩
abbrev cX12_digest : ByteArray := prog_10_method_51_code
def yX12_digest : MethodName := ⟨RX12, "digest", "()J"⟩
def RJx145de : String := "java/io/Serializable"
def TJx145de : u_T := fun k => match k with
  | _ => ("", "", "", false)
def tyJx145de : Nat → FieldType := fun k => match k with
  | _ => .int
abbrev wsJx145de0 : List Cond := u_ws RJx145de TJx145de 0
theorem nmJx145de : ∀ a, a < 0 → ∀ b, b < 0 → a ≠ b → (TJx145de a).2.1 ≠ (TJx145de b).2.1 := by decide +kernel
theorem tyJx145de_ok : ∀ k, k < 0 → parseFieldDescriptor (TJx145de k).2.2.1 = some (tyJx145de k) := by decide +kernel
def RJx8e188 : String := "java/lang/Cloneable"
def TJx8e188 : u_T := fun k => match k with
  | _ => ("", "", "", false)
def tyJx8e188 : Nat → FieldType := fun k => match k with
  | _ => .int
abbrev wsJx8e1880 : List Cond := u_ws RJx8e188 TJx8e188 0
theorem nmJx8e188 : ∀ a, a < 0 → ∀ b, b < 0 → a ≠ b → (TJx8e188 a).2.1 ≠ (TJx8e188 b).2.1 := by decide +kernel
theorem tyJx8e188_ok : ∀ k, k < 0 → parseFieldDescriptor (TJx8e188 k).2.2.1 = some (tyJx8e188 k) := by decide +kernel
def RJxb160c : String := "java/lang/Comparable"
def TJxb160c : u_T := fun k => match k with
  | _ => ("", "", "", false)
def tyJxb160c : Nat → FieldType := fun k => match k with
  | _ => .int
abbrev wsJxb160c0 : List Cond := u_ws RJxb160c TJxb160c 0
theorem nmJxb160c : ∀ a, a < 0 → ∀ b, b < 0 → a ≠ b → (TJxb160c a).2.1 ≠ (TJxb160c b).2.1 := by decide +kernel
theorem tyJxb160c_ok : ∀ k, k < 0 → parseFieldDescriptor (TJxb160c k).2.2.1 = some (tyJxb160c k) := by decide +kernel
def RJxabbfe : String := "java/lang/Integer$IntegerCache"
def TJxabbfe : u_T := fun k => match k with
  | _ => ("", "", "", false)
def tyJxabbfe : Nat → FieldType := fun k => match k with
  | _ => .int
abbrev wsJxabbfe0 : List Cond := u_ws RJxabbfe TJxabbfe 0
theorem nmJxabbfe : ∀ a, a < 0 → ∀ b, b < 0 → a ≠ b → (TJxabbfe a).2.1 ≠ (TJxabbfe b).2.1 := by decide +kernel
theorem tyJxabbfe_ok : ∀ k, k < 0 → parseFieldDescriptor (TJxabbfe k).2.2.1 = some (tyJxabbfe k) := by decide +kernel
def RJ6 : String := "java/lang/Integer"
def TJ6 : u_T := fun k => match k with
  | _ => ("java/lang/Integer", "value", "I", true)
def tyJ6 : Nat → FieldType := fun k => match k with
  | _ => .int
abbrev wsJ60 : List Cond := u_ws RJ6 TJ6 1
theorem nmJ6 : ∀ a, a < 1 → ∀ b, b < 1 → a ≠ b → (TJ6 a).2.1 ≠ (TJ6 b).2.1 := by decide +kernel
theorem tyJ6_ok : ∀ k, k < 1 → parseFieldDescriptor (TJ6 k).2.2.1 = some (tyJ6 k) := by decide +kernel
abbrev cJ6_valueOf_2dffe : ByteArray := prog_22_method_22_code
def yJ6_valueOf_2dffe : MethodName := ⟨RJ6, "valueOf", "(I)Ljava/lang/Integer;"⟩
abbrev cJ6_init_d00df : ByteArray := prog_22_method_23_code
def yJ6_init_d00df : MethodName := ⟨RJ6, "<init>", "(I)V"⟩
abbrev cJ6_intValue_8abf5 : ByteArray := prog_22_method_27_code
def yJ6_intValue_8abf5 : MethodName := ⟨RJ6, "intValue", "()I"⟩
abbrev cJ6_numberOfTrailingZeros_0f7a4 : ByteArray := prog_22_method_48_code
def yJ6_numberOfTrailingZeros_0f7a4 : MethodName := ⟨RJ6, "numberOfTrailingZeros", "(I)I"⟩
abbrev cJ6_bitCount_0f7a4 : ByteArray := prog_22_method_49_code
def yJ6_bitCount_0f7a4 : MethodName := ⟨RJ6, "bitCount", "(I)I"⟩
def RJxab1ab : String := "java/lang/Iterable"
def TJxab1ab : u_T := fun k => match k with
  | _ => ("", "", "", false)
def tyJxab1ab : Nat → FieldType := fun k => match k with
  | _ => .int
abbrev wsJxab1ab0 : List Cond := u_ws RJxab1ab TJxab1ab 0
theorem nmJxab1ab : ∀ a, a < 0 → ∀ b, b < 0 → a ≠ b → (TJxab1ab a).2.1 ≠ (TJxab1ab b).2.1 := by decide +kernel
theorem tyJxab1ab_ok : ∀ k, k < 0 → parseFieldDescriptor (TJxab1ab k).2.2.1 = some (tyJxab1ab k) := by decide +kernel
def RJ9 : String := "java/lang/Math"
def TJ9 : u_T := fun k => match k with
  | _ => ("", "", "", false)
def tyJ9 : Nat → FieldType := fun k => match k with
  | _ => .int
abbrev wsJ90 : List Cond := u_ws RJ9 TJ9 0
theorem nmJ9 : ∀ a, a < 0 → ∀ b, b < 0 → a ≠ b → (TJ9 a).2.1 ≠ (TJ9 b).2.1 := by decide +kernel
theorem tyJ9_ok : ∀ k, k < 0 → parseFieldDescriptor (TJ9 k).2.2.1 = some (tyJ9 k) := by decide +kernel
abbrev cJ9_max_7cf53 : ByteArray := prog_25_method_65_code
def yJ9_max_7cf53 : MethodName := ⟨RJ9, "max", "(II)I"⟩
abbrev cJ9_min_7cf53 : ByteArray := prog_25_method_69_code
def yJ9_min_7cf53 : MethodName := ⟨RJ9, "min", "(II)I"⟩
def RJxd2413 : String := "java/lang/Number"
def TJxd2413 : u_T := fun k => match k with
  | _ => ("", "", "", false)
def tyJxd2413 : Nat → FieldType := fun k => match k with
  | _ => .int
abbrev wsJxd24130 : List Cond := u_ws RJxd2413 TJxd2413 0
theorem nmJxd2413 : ∀ a, a < 0 → ∀ b, b < 0 → a ≠ b → (TJxd2413 a).2.1 ≠ (TJxd2413 b).2.1 := by decide +kernel
theorem tyJxd2413_ok : ∀ k, k < 0 → parseFieldDescriptor (TJxd2413 k).2.2.1 = some (tyJxd2413 k) := by decide +kernel
abbrev cJxd2413_init_da8c8 : ByteArray := prog_26_method_1_code
def yJxd2413_init_da8c8 : MethodName := ⟨RJxd2413, "<init>", "()V"⟩
def RJ10 : String := "java/lang/System"
def TJ10 : u_T := fun k => match k with
  | _ => ("", "", "", false)
def tyJ10 : Nat → FieldType := fun k => match k with
  | _ => .int
abbrev wsJ100 : List Cond := u_ws RJ10 TJ10 0
theorem nmJ10 : ∀ a, a < 0 → ∀ b, b < 0 → a ≠ b → (TJ10 a).2.1 ≠ (TJ10 b).2.1 := by decide +kernel
theorem tyJ10_ok : ∀ k, k < 0 → parseFieldDescriptor (TJ10 k).2.2.1 = some (tyJ10 k) := by decide +kernel
def RJxfd54e : String := "java/lang/constant/Constable"
def TJxfd54e : u_T := fun k => match k with
  | _ => ("", "", "", false)
def tyJxfd54e : Nat → FieldType := fun k => match k with
  | _ => .int
abbrev wsJxfd54e0 : List Cond := u_ws RJxfd54e TJxfd54e 0
theorem nmJxfd54e : ∀ a, a < 0 → ∀ b, b < 0 → a ≠ b → (TJxfd54e a).2.1 ≠ (TJxfd54e b).2.1 := by decide +kernel
theorem tyJxfd54e_ok : ∀ k, k < 0 → parseFieldDescriptor (TJxfd54e k).2.2.1 = some (tyJxfd54e k) := by decide +kernel
def RJx3cf43 : String := "java/lang/constant/ConstantDesc"
def TJx3cf43 : u_T := fun k => match k with
  | _ => ("", "", "", false)
def tyJx3cf43 : Nat → FieldType := fun k => match k with
  | _ => .int
abbrev wsJx3cf430 : List Cond := u_ws RJx3cf43 TJx3cf43 0
theorem nmJx3cf43 : ∀ a, a < 0 → ∀ b, b < 0 → a ≠ b → (TJx3cf43 a).2.1 ≠ (TJx3cf43 b).2.1 := by decide +kernel
theorem tyJx3cf43_ok : ∀ k, k < 0 → parseFieldDescriptor (TJx3cf43 k).2.2.1 = some (tyJx3cf43 k) := by decide +kernel
def RJxa1e45 : String := "java/util/AbstractCollection"
def TJxa1e45 : u_T := fun k => match k with
  | _ => ("", "", "", false)
def tyJxa1e45 : Nat → FieldType := fun k => match k with
  | _ => .int
abbrev wsJxa1e450 : List Cond := u_ws RJxa1e45 TJxa1e45 0
theorem nmJxa1e45 : ∀ a, a < 0 → ∀ b, b < 0 → a ≠ b → (TJxa1e45 a).2.1 ≠ (TJxa1e45 b).2.1 := by decide +kernel
theorem tyJxa1e45_ok : ∀ k, k < 0 → parseFieldDescriptor (TJxa1e45 k).2.2.1 = some (tyJxa1e45 k) := by decide +kernel
abbrev cJxa1e45_init_da8c8 : ByteArray := prog_32_method_1_code
def yJxa1e45_init_da8c8 : MethodName := ⟨RJxa1e45, "<init>", "()V"⟩
def RJxc12de : String := "java/util/AbstractList"
def TJxc12de : u_T := fun k => match k with
  | _ => ("", "", "", false)
def tyJxc12de : Nat → FieldType := fun k => match k with
  | _ => .int
abbrev wsJxc12de0 : List Cond := u_ws RJxc12de TJxc12de 0
theorem nmJxc12de : ∀ a, a < 0 → ∀ b, b < 0 → a ≠ b → (TJxc12de a).2.1 ≠ (TJxc12de b).2.1 := by decide +kernel
theorem tyJxc12de_ok : ∀ k, k < 0 → parseFieldDescriptor (TJxc12de k).2.2.1 = some (tyJxc12de k) := by decide +kernel
abbrev cJxc12de_init_da8c8 : ByteArray := prog_33_method_1_code
def yJxc12de_init_da8c8 : MethodName := ⟨RJxc12de, "<init>", "()V"⟩
def RJx4a65c : String := "java/util/ArrayList"
def TJx4a65c : u_T := fun k => match k with
  | 0 => ("java/util/AbstractList", "modCount", "I", false)
  | 1 => ("java/util/ArrayList", "elementData", "[Ljava/lang/Object;", false)
  | _ => ("java/util/ArrayList", "size", "I", false)
def tyJx4a65c : Nat → FieldType := fun k => match k with
  | 0 => .int
  | 1 => .array (.object "java/lang/Object")
  | _ => .int
abbrev wsJx4a65c0 : List Cond := u_ws RJx4a65c TJx4a65c 3
theorem nmJx4a65c : ∀ a, a < 3 → ∀ b, b < 3 → a ≠ b → (TJx4a65c a).2.1 ≠ (TJx4a65c b).2.1 := by decide +kernel
theorem tyJx4a65c_ok : ∀ k, k < 3 → parseFieldDescriptor (TJx4a65c k).2.2.1 = some (tyJx4a65c k) := by decide +kernel
abbrev cJx4a65c_init_da8c8 : ByteArray := prog_34_method_2_code
def yJx4a65c_init_da8c8 : MethodName := ⟨RJx4a65c, "<init>", "()V"⟩
abbrev cJx4a65c_init_4bcb3 : ByteArray := prog_34_method_3_code
def yJx4a65c_init_4bcb3 : MethodName := ⟨RJx4a65c, "<init>", "(Ljava/util/Collection;)V"⟩
abbrev cJx4a65c_grow_92f84 : ByteArray := prog_34_method_6_code
def yJx4a65c_grow_92f84 : MethodName := ⟨RJx4a65c, "grow", "(I)[Ljava/lang/Object;"⟩
abbrev cJx4a65c_grow_d5877 : ByteArray := prog_34_method_7_code
def yJx4a65c_grow_d5877 : MethodName := ⟨RJx4a65c, "grow", "()[Ljava/lang/Object;"⟩
abbrev cJx4a65c_size_8abf5 : ByteArray := prog_34_method_8_code
def yJx4a65c_size_8abf5 : MethodName := ⟨RJx4a65c, "size", "()I"⟩
abbrev cJx4a65c_isEmpty_aae02 : ByteArray := prog_34_method_9_code
def yJx4a65c_isEmpty_aae02 : MethodName := ⟨RJx4a65c, "isEmpty", "()Z"⟩
abbrev cJx4a65c_toArray_d5877 : ByteArray := prog_34_method_16_code
def yJx4a65c_toArray_d5877 : MethodName := ⟨RJx4a65c, "toArray", "()[Ljava/lang/Object;"⟩
abbrev cJx4a65c_elementData_915e3 : ByteArray := prog_34_method_18_code
def yJx4a65c_elementData_915e3 : MethodName := ⟨RJx4a65c, "elementData", "(I)Ljava/lang/Object;"⟩
abbrev cJx4a65c_get_915e3 : ByteArray := prog_34_method_20_code
def yJx4a65c_get_915e3 : MethodName := ⟨RJx4a65c, "get", "(I)Ljava/lang/Object;"⟩
abbrev cJx4a65c_add_72be8 : ByteArray := prog_34_method_24_code
def yJx4a65c_add_72be8 : MethodName := ⟨RJx4a65c, "add", "(Ljava/lang/Object;[Ljava/lang/Object;I)V"⟩
abbrev cJx4a65c_add_9ea2d : ByteArray := prog_34_method_25_code
def yJx4a65c_add_9ea2d : MethodName := ⟨RJx4a65c, "add", "(Ljava/lang/Object;)Z"⟩
abbrev cJx4a65c_remove_915e3 : ByteArray := prog_34_method_29_code
def yJx4a65c_remove_915e3 : MethodName := ⟨RJx4a65c, "remove", "(I)Ljava/lang/Object;"⟩
abbrev cJx4a65c_fastRemove_b59b0 : ByteArray := prog_34_method_39_code
def yJx4a65c_fastRemove_b59b0 : MethodName := ⟨RJx4a65c, "fastRemove", "([Ljava/lang/Object;I)V"⟩
abbrev cJx4a65c_clear_da8c8 : ByteArray := prog_34_method_40_code
def yJx4a65c_clear_da8c8 : MethodName := ⟨RJx4a65c, "clear", "()V"⟩
def RJ7 : String := "java/util/Arrays"
def TJ7 : u_T := fun k => match k with
  | _ => ("", "", "", false)
def tyJ7 : Nat → FieldType := fun k => match k with
  | _ => .int
abbrev wsJ70 : List Cond := u_ws RJ7 TJ7 0
theorem nmJ7 : ∀ a, a < 0 → ∀ b, b < 0 → a ≠ b → (TJ7 a).2.1 ≠ (TJ7 b).2.1 := by decide +kernel
theorem tyJ7_ok : ∀ k, k < 0 → parseFieldDescriptor (TJ7 k).2.2.1 = some (tyJ7 k) := by decide +kernel
abbrev cJ7_copyOf_1904c : ByteArray := prog_35_method_119_code
def yJ7_copyOf_1904c : MethodName := ⟨RJ7, "copyOf", "([Ljava/lang/Object;I)[Ljava/lang/Object;"⟩
abbrev cJ7_copyOf_6403c : ByteArray := prog_35_method_120_code
def yJ7_copyOf_6403c : MethodName := ⟨RJ7, "copyOf", "([Ljava/lang/Object;ILjava/lang/Class;)[Ljava/lang/Object;"⟩
def RJx5ef63 : String := "java/util/Collection"
def TJx5ef63 : u_T := fun k => match k with
  | _ => ("", "", "", false)
def tyJx5ef63 : Nat → FieldType := fun k => match k with
  | _ => .int
abbrev wsJx5ef630 : List Cond := u_ws RJx5ef63 TJx5ef63 0
theorem nmJx5ef63 : ∀ a, a < 0 → ∀ b, b < 0 → a ≠ b → (TJx5ef63 a).2.1 ≠ (TJx5ef63 b).2.1 := by decide +kernel
theorem tyJx5ef63_ok : ∀ k, k < 0 → parseFieldDescriptor (TJx5ef63 k).2.2.1 = some (tyJx5ef63 k) := by decide +kernel
def RJxbd725 : String := "java/util/List"
def TJxbd725 : u_T := fun k => match k with
  | _ => ("", "", "", false)
def tyJxbd725 : Nat → FieldType := fun k => match k with
  | _ => .int
abbrev wsJxbd7250 : List Cond := u_ws RJxbd725 TJxbd725 0
theorem nmJxbd725 : ∀ a, a < 0 → ∀ b, b < 0 → a ≠ b → (TJxbd725 a).2.1 ≠ (TJxbd725 b).2.1 := by decide +kernel
theorem tyJxbd725_ok : ∀ k, k < 0 → parseFieldDescriptor (TJxbd725 k).2.2.1 = some (tyJxbd725 k) := by decide +kernel
def RJ15 : String := "java/util/Objects"
def TJ15 : u_T := fun k => match k with
  | _ => ("", "", "", false)
def tyJ15 : Nat → FieldType := fun k => match k with
  | _ => .int
abbrev wsJ150 : List Cond := u_ws RJ15 TJ15 0
theorem nmJ15 : ∀ a, a < 0 → ∀ b, b < 0 → a ≠ b → (TJ15 a).2.1 ≠ (TJ15 b).2.1 := by decide +kernel
theorem tyJ15_ok : ∀ k, k < 0 → parseFieldDescriptor (TJ15 k).2.2.1 = some (tyJ15 k) := by decide +kernel
abbrev cJ15_checkIndex_7cf53 : ByteArray := prog_38_method_17_code
def yJ15_checkIndex_7cf53 : MethodName := ⟨RJ15, "checkIndex", "(II)I"⟩
def RJxf0a74 : String := "java/util/RandomAccess"
def TJxf0a74 : u_T := fun k => match k with
  | _ => ("", "", "", false)
def tyJxf0a74 : Nat → FieldType := fun k => match k with
  | _ => .int
abbrev wsJxf0a740 : List Cond := u_ws RJxf0a74 TJxf0a74 0
theorem nmJxf0a74 : ∀ a, a < 0 → ∀ b, b < 0 → a ≠ b → (TJxf0a74 a).2.1 ≠ (TJxf0a74 b).2.1 := by decide +kernel
theorem tyJxf0a74_ok : ∀ k, k < 0 → parseFieldDescriptor (TJxf0a74 k).2.2.1 = some (tyJxf0a74 k) := by decide +kernel
def RJxa66e6 : String := "java/util/SequencedCollection"
def TJxa66e6 : u_T := fun k => match k with
  | _ => ("", "", "", false)
def tyJxa66e6 : Nat → FieldType := fun k => match k with
  | _ => .int
abbrev wsJxa66e60 : List Cond := u_ws RJxa66e6 TJxa66e6 0
theorem nmJxa66e6 : ∀ a, a < 0 → ∀ b, b < 0 → a ≠ b → (TJxa66e6 a).2.1 ≠ (TJxa66e6 b).2.1 := by decide +kernel
theorem tyJxa66e6_ok : ∀ k, k < 0 → parseFieldDescriptor (TJxa66e6 k).2.2.1 = some (tyJxa66e6 k) := by decide +kernel
def RJ8 : String := "jdk/internal/util/ArraysSupport"
def TJ8 : u_T := fun k => match k with
  | _ => ("", "", "", false)
def tyJ8 : Nat → FieldType := fun k => match k with
  | _ => .int
abbrev wsJ80 : List Cond := u_ws RJ8 TJ8 0
theorem nmJ8 : ∀ a, a < 0 → ∀ b, b < 0 → a ≠ b → (TJ8 a).2.1 ≠ (TJ8 b).2.1 := by decide +kernel
theorem tyJ8_ok : ∀ k, k < 0 → parseFieldDescriptor (TJ8 k).2.2.1 = some (tyJ8 k) := by decide +kernel
abbrev cJ8_newLength_cabcc : ByteArray := prog_41_method_27_code
def yJ8_newLength_cabcc : MethodName := ⟨RJ8, "newLength", "(III)I"⟩
abbrev cJ8_hugeLength_7cf53 : ByteArray := prog_41_method_28_code
def yJ8_hugeLength_7cf53 : MethodName := ⟨RJ8, "hugeLength", "(II)I"⟩
def RJ3 : String := "jdk/internal/util/Preconditions"
def TJ3 : u_T := fun k => match k with
  | _ => ("", "", "", false)
def tyJ3 : Nat → FieldType := fun k => match k with
  | _ => .int
abbrev wsJ30 : List Cond := u_ws RJ3 TJ3 0
theorem nmJ3 : ∀ a, a < 0 → ∀ b, b < 0 → a ≠ b → (TJ3 a).2.1 ≠ (TJ3 b).2.1 := by decide +kernel
theorem tyJ3_ok : ∀ k, k < 0 → parseFieldDescriptor (TJ3 k).2.2.1 = some (tyJ3 k) := by decide +kernel
abbrev cJ3_checkIndex_8e157 : ByteArray := prog_42_method_11_code
def yJ3_checkIndex_8e157 : MethodName := ⟨RJ3, "checkIndex", "(IILjava/util/function/BiFunction;)I"⟩
def RL : String := "PuppetTheatreLaw"
abbrev cL_addState : ByteArray := method_3_code
def yL_addState : MethodName := ⟨RL, "addState", "(LPuppetTheatre;II[J)I"⟩
abbrev cL_setFirst : ByteArray := method_4_code
def yL_setFirst : MethodName := ⟨RL, "setFirst", "(LPuppetTheatre;II[J)I"⟩
abbrev cL_setDoing : ByteArray := method_5_code
def yL_setDoing : MethodName := ⟨RL, "setDoing", "(LPuppetTheatre;IZIII[J)I"⟩
abbrev cL_addTransition : ByteArray := method_6_code
def yL_addTransition : MethodName := ⟨RL, "addTransition", "(LPuppetTheatre;IIII[J)I"⟩
abbrev cL_setGuard : ByteArray := method_7_code
def yL_setGuard : MethodName := ⟨RL, "setGuard", "(LPuppetTheatre;IIII[J)I"⟩
abbrev cL_setAction : ByteArray := method_8_code
def yL_setAction : MethodName := ⟨RL, "setAction", "(LPuppetTheatre;IIII[J)I"⟩
abbrev cL_start : ByteArray := method_9_code
def yL_start : MethodName := ⟨RL, "start", "(LPuppetTheatre;[J)I"⟩
abbrev cL_stop : ByteArray := method_10_code
def yL_stop : MethodName := ⟨RL, "stop", "(LPuppetTheatre;[J)I"⟩
abbrev cL_send : ByteArray := method_11_code
def yL_send : MethodName := ⟨RL, "send", "(LPuppetTheatre;I[J)I"⟩
abbrev cL_tick : ByteArray := method_12_code
def yL_tick : MethodName := ⟨RL, "tick", "(LPuppetTheatre;I[J)I"⟩
abbrev cL_ofState : ByteArray := method_13_code
def yL_ofState : MethodName := ⟨RL, "ofState", "(LPuppetTheatre;II[J)I"⟩
abbrev cL_isEnded : ByteArray := method_14_code
def yL_isEnded : MethodName := ⟨RL, "isEnded", "(LPuppetTheatre;I[J)I"⟩
abbrev cL_ageOf : ByteArray := method_15_code
def yL_ageOf : MethodName := ⟨RL, "ageOf", "(LPuppetTheatre;I[J)I"⟩
abbrev cL_record : ByteArray := method_16_code
def yL_record : MethodName := ⟨RL, "record", "(LPuppetTheatre;I[J)I"⟩
abbrev cL_variable : ByteArray := method_17_code
def yL_variable : MethodName := ⟨RL, "variable", "(LPuppetTheatre;I[J)I"⟩
abbrev cL_fired : ByteArray := method_18_code
def yL_fired : MethodName := ⟨RL, "fired", "(LPuppetTheatre;I[J)I"⟩
abbrev cL_wouldFire : ByteArray := method_19_code
def yL_wouldFire : MethodName := ⟨RL, "wouldFire", "(LPuppetTheatre;I[J)I"⟩
abbrev cL_wouldBe : ByteArray := method_20_code
def yL_wouldBe : MethodName := ⟨RL, "wouldBe", "(LPuppetTheatre;I[J)I"⟩
abbrev cL_open : ByteArray := method_21_code
def yL_open : MethodName := ⟨RL, "open", "(LPuppetTheatre;[J)I"⟩
abbrev cL_rowTo : ByteArray := method_22_code
def yL_rowTo : MethodName := ⟨RL, "rowTo", "(LPuppetTheatre;II[J)I"⟩
abbrev cL_rowFor : ByteArray := method_23_code
def yL_rowFor : MethodName := ⟨RL, "rowFor", "(LPuppetTheatre;II[J)I"⟩
abbrev cL_law : ByteArray := code
def yL_law : MethodName := ⟨RL, "law", "([I)Z"⟩
abbrev vwCl : List vw_C := [(RJ6, TJ6, 1), (RJx4a65c, TJx4a65c, 3), (RX0, TX0, 3), (RX1, TX1, 7), (RX2, TX2, 9), (RX3, TX3, 11), (RX4, TX4, 4), (RX5, TX5, 9), (RX6, TX6, 9), (RX7, TX7, 5), (RX8, TX8, 2), (RX9, TX9, 11), (RX10, TX10, 5), (RX11, TX11, 6), (RX12, TX12, 5)]
